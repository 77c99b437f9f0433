theorem kb_11 : (Int8.ofInt (11)).toInt32 = (11 : Int32) := by decide +kernel
theorem kb_39 : (Int8.ofInt (39)).toInt32 = (39 : Int32) := by decide +kernel
theorem kb_59 : (Int8.ofInt (59)).toInt32 = (59 : Int32) := by decide +kernel
theorem kb_65 : (Int8.ofInt (65)).toInt32 = (65 : Int32) := by decide +kernel
theorem ks_1042 : (Int16.ofInt (1042)).toInt32 = (1042 : Int32) := by decide +kernel
theorem ks_161 : (Int16.ofInt (161)).toInt32 = (161 : Int32) := by decide +kernel
theorem ks_521 : (Int16.ofInt (521)).toInt32 = (521 : Int32) := by decide +kernel
theorem ks_6773 : (Int16.ofInt (6773)).toInt32 = (6773 : Int32) := by decide +kernel
theorem ks_7294 : (Int16.ofInt (7294)).toInt32 = (7294 : Int32) := by decide +kernel
def Y_MD_thrown : zY := (⟨"SirenFairModel", "thrown", "()I"⟩, prog_10_method_2_code, 1, some .int, [])
theorem w_fl_MD_33 : Cond.fieldLink "SirenFairModel" 33 "SirenFairModel" "refusal" "I" ∈ zWd := zin 955 (by decide +kernel) rfl
theorem in_SirenFairModel : ∀ w ∈ u_ws "SirenFairModel" T_SirenFairModel 11, w ∈ zWd := by decide +kernel
theorem zc_SirenFairModel : zcls 8 "SirenFairModel" T_SirenFairModel 11 ty_SirenFairModel := ⟨rfl, in_SirenFairModel, nm_SirenFairModel, tyok_SirenFairModel⟩
theorem fl_MD_33 : zfl "SirenFairModel" 33 8 0 (.int) false := ⟨_, _, _, _, zc_SirenFairModel, by decide, w_fl_MD_33, rfl, rfl, rfl⟩
def Y_MD_refused : zY := (⟨"SirenFairModel", "refused", "(I)Z"⟩, prog_10_method_3_code, 2, some .boolean, [])
def Y_MD_in : zY := (⟨"SirenFairModel", "in", "(JJJ)Z"⟩, prog_10_method_4_code, 6, some .boolean, [])
def Y_MD_copyState : zY := (⟨"SirenFairModel", "copyState", "([II[II)V"⟩, prog_10_method_5_code, 5, none, [])
def Y_MD_clear : zY := (⟨"SirenFairModel", "clear", "([I)V"⟩, prog_10_method_6_code, 2, none, [])
def Y_MD_ofSiren : zY := (⟨"SirenFairModel", "ofSiren", "([III)I"⟩, prog_10_method_7_code, 3, some .int, [])
def Y_MD_ofHearer : zY := (⟨"SirenFairModel", "ofHearer", "([III)I"⟩, prog_10_method_8_code, 3, some .int, [])
def Y_MD_pulseAt : zY := (⟨"SirenFairModel", "pulseAt", "([III)I"⟩, prog_10_method_9_code, 3, some .int, [])
def Y_MD_without : zY := (⟨"SirenFairModel", "without", "(I)I"⟩, prog_10_method_13_code, 1, some .int, [])
def Y_MD_dropPulse : zY := (⟨"SirenFairModel", "dropPulse", "([II)V"⟩, prog_10_method_18_code, 3, none, [])
def Y_MD_beats : zY := (⟨"SirenFairModel", "beats", "([II)V"⟩, prog_10_method_27_code, 4, none, [])
def Y_MD_sirenOn : zY := (⟨"SirenFairModel", "sirenOn", "([IIIIII)I"⟩, prog_10_method_33_code, 7, some .int, [])
def Y_MD_hearerOn : zY := (⟨"SirenFairModel", "hearerOn", "([IIIII)I"⟩, prog_10_method_34_code, 6, some .int, [])
def Y_MD_wallOn : zY := (⟨"SirenFairModel", "wallOn", "([IZI)I"⟩, prog_10_method_35_code, 3, some .int, [])
def Y_MD_change : zY := (⟨"SirenFairModel", "change", "([III)I"⟩, prog_10_method_38_code, 4, some .int, [])
def Y_MD_clearText : zY := (⟨"SirenFairModel", "clearText", "()I"⟩, prog_10_method_40_code, 2, some .int, [])
theorem w_fl_MD_124 : Cond.fieldLink "SirenFairModel" 124 "SirenFairModel" "size" "I" ∈ zWd := zin 957 (by decide +kernel) rfl
theorem fl_MD_124 : zfl "SirenFairModel" 124 8 2 (.int) false := ⟨_, _, _, _, zc_SirenFairModel, by decide, w_fl_MD_124, rfl, rfl, rfl⟩
def Y_MD_either : zY := (⟨"SirenFairModel", "either", "(III)I"⟩, prog_10_method_42_code, 6, some .int, [])
theorem w_fl_MD_131 : Cond.fieldLink "SirenFairModel" 131 "SirenFairModel" "spot" "I" ∈ zWd := zin 964 (by decide +kernel) rfl
theorem fl_MD_131 : zfl "SirenFairModel" 131 8 9 (.int) false := ⟨_, _, _, _, zc_SirenFairModel, by decide, w_fl_MD_131, rfl, rfl, rfl⟩
theorem w_fl_MD_7 : Cond.fieldLink "SirenFairModel" 7 "SirenFairModel" "text" "[I" ∈ zWd := zin 956 (by decide +kernel) rfl
theorem fl_MD_7 : zfl "SirenFairModel" 7 8 1 (.array (.int)) true := ⟨_, _, _, _, zc_SirenFairModel, by decide, w_fl_MD_7, rfl, rfl, rfl⟩
def Y_MD_done : zY := (⟨"SirenFairModel", "done", "(Z)Z"⟩, prog_10_method_43_code, 2, some .boolean, [])
theorem w_fl_MD_134 : Cond.fieldLink "SirenFairModel" 134 "SirenFairModel" "out" "I" ∈ zWd := zin 965 (by decide +kernel) rfl
theorem fl_MD_134 : zfl "SirenFairModel" 134 8 10 (.int) false := ⟨_, _, _, _, zc_SirenFairModel, by decide, w_fl_MD_134, rfl, rfl, rfl⟩
def Y_MD_init : zY := (⟨"SirenFairModel", "<init>", "()V"⟩, prog_10_method_1_code, 1, none, [])
theorem w_fl_MD_13 : Cond.fieldLink "SirenFairModel" 13 "SirenFairModel" "now" "[I" ∈ zWd := zin 958 (by decide +kernel) rfl
theorem fl_MD_13 : zfl "SirenFairModel" 13 8 3 (.array (.int)) true := ⟨_, _, _, _, zc_SirenFairModel, by decide, w_fl_MD_13, rfl, rfl, rfl⟩
theorem w_ml_MD_1 : Cond.methodLink "SirenFairModel" 1 Lib.objectInit ∈ zWd := zin 951 (by decide +kernel) rfl
theorem w_fl_MD_16 : Cond.fieldLink "SirenFairModel" 16 "SirenFairModel" "trial" "[I" ∈ zWd := zin 959 (by decide +kernel) rfl
theorem fl_MD_16 : zfl "SirenFairModel" 16 8 4 (.array (.int)) true := ⟨_, _, _, _, zc_SirenFairModel, by decide, w_fl_MD_16, rfl, rfl, rfl⟩
theorem w_fl_MD_19 : Cond.fieldLink "SirenFairModel" 19 "SirenFairModel" "diary" "[I" ∈ zWd := zin 960 (by decide +kernel) rfl
theorem fl_MD_19 : zfl "SirenFairModel" 19 8 5 (.array (.int)) true := ⟨_, _, _, _, zc_SirenFairModel, by decide, w_fl_MD_19, rfl, rfl, rfl⟩
theorem w_fl_MD_22 : Cond.fieldLink "SirenFairModel" 22 "SirenFairModel" "kept" "[I" ∈ zWd := zin 962 (by decide +kernel) rfl
theorem fl_MD_22 : zfl "SirenFairModel" 22 8 7 (.array (.int)) true := ⟨_, _, _, _, zc_SirenFairModel, by decide, w_fl_MD_22, rfl, rfl, rfl⟩
theorem w_fl_MD_25 : Cond.fieldLink "SirenFairModel" 25 "SirenFairModel" "isKept" "[Z" ∈ zWd := zin 963 (by decide +kernel) rfl
theorem fl_MD_25 : zfl "SirenFairModel" 25 8 8 (.array (.boolean)) true := ⟨_, _, _, _, zc_SirenFairModel, by decide, w_fl_MD_25, rfl, rfl, rfl⟩
theorem w_c_MD_clear : Cond.code Y_MD_clear.1 Y_MD_clear.2.1 Y_MD_clear.2.2.1 Y_MD_clear.2.2.2.1 ∈ zWd := zin 954 (by decide +kernel) rfl
theorem w_ini_MD : Cond.initialized "SirenFairModel" ∈ zWd := zin 35 (by decide +kernel) rfl
theorem lk_MD_clear : zlk Y_MD_clear 1 := ⟨w_c_MD_clear, w_ini_MD, by decide +kernel, by decide +kernel, by decide⟩
theorem w_ml_MD_29 : Cond.methodLink "SirenFairModel" 29 Y_MD_clear.1 ∈ zWd := zin 952 (by decide +kernel) rfl
theorem w_st_MD_clear : Cond.static Y_MD_clear.1 ∈ zWd := zin 953 (by decide +kernel) rfl
theorem lkS_MD_29 : zlkS "SirenFairModel" 29 Y_MD_clear 1 := ⟨lk_MD_clear, w_ml_MD_29, w_st_MD_clear⟩
def Y_MD_isSiren : zY := (⟨"SirenFairModel", "isSiren", "([II)Z"⟩, prog_10_method_10_code, 2, some .boolean, [])
theorem w_c_MD_in : Cond.code Y_MD_in.1 Y_MD_in.2.1 Y_MD_in.2.2.1 Y_MD_in.2.2.2.1 ∈ zWd := zin 1000 (by decide +kernel) rfl
theorem lk_MD_in : zlk Y_MD_in 3 := ⟨w_c_MD_in, w_ini_MD, by decide +kernel, by decide +kernel, by decide⟩
theorem w_ml_MD_37 : Cond.methodLink "SirenFairModel" 37 Y_MD_in.1 ∈ zWd := zin 998 (by decide +kernel) rfl
theorem w_st_MD_in : Cond.static Y_MD_in.1 ∈ zWd := zin 999 (by decide +kernel) rfl
theorem lkS_MD_37 : zlkS "SirenFairModel" 37 Y_MD_in 3 := ⟨lk_MD_in, w_ml_MD_37, w_st_MD_in⟩
def Y_MD_isHearer : zY := (⟨"SirenFairModel", "isHearer", "([II)Z"⟩, prog_10_method_11_code, 2, some .boolean, [])
def Y_MD_isSetting : zY := (⟨"SirenFairModel", "isSetting", "(II)Z"⟩, prog_10_method_12_code, 2, some .boolean, [])
theorem w_k_MD_43 : Cond.constantLong "SirenFairModel" 43 (99) ∈ zWd := zin 1210 (by decide +kernel) rfl
theorem w_k_MD_41 : Cond.constantLong "SirenFairModel" 41 (9) ∈ zWd := zin 1029 (by decide +kernel) rfl
def Y_MD_ring : zY := (⟨"SirenFairModel", "ring", "([II)I"⟩, prog_10_method_14_code, 2, some .int, [])
theorem w_c_MD_ofSiren : Cond.code Y_MD_ofSiren.1 Y_MD_ofSiren.2.1 Y_MD_ofSiren.2.2.1 Y_MD_ofSiren.2.2.2.1 ∈ zWd := zin 1059 (by decide +kernel) rfl
theorem lk_MD_ofSiren : zlk Y_MD_ofSiren 3 := ⟨w_c_MD_ofSiren, w_ini_MD, by decide +kernel, by decide +kernel, by decide⟩
theorem w_ml_MD_45 : Cond.methodLink "SirenFairModel" 45 Y_MD_ofSiren.1 ∈ zWd := zin 1057 (by decide +kernel) rfl
theorem w_st_MD_ofSiren : Cond.static Y_MD_ofSiren.1 ∈ zWd := zin 1058 (by decide +kernel) rfl
theorem lkS_MD_45 : zlkS "SirenFairModel" 45 Y_MD_ofSiren 3 := ⟨lk_MD_ofSiren, w_ml_MD_45, w_st_MD_ofSiren⟩
def Y_MD_xOf : zY := (⟨"SirenFairModel", "xOf", "([II)I"⟩, prog_10_method_16_code, 5, some .int, [])
def Y_MD_yOf : zY := (⟨"SirenFairModel", "yOf", "([II)I"⟩, prog_10_method_17_code, 5, some .int, [])
def Y_MD_give : zY := (⟨"SirenFairModel", "give", "([IIIII)V"⟩, prog_10_method_19_code, 6, none, [])
theorem w_c_MD_dropPulse : Cond.code Y_MD_dropPulse.1 Y_MD_dropPulse.2.1 Y_MD_dropPulse.2.2.1 Y_MD_dropPulse.2.2.2.1 ∈ zWd := zin 1095 (by decide +kernel) rfl
theorem lk_MD_dropPulse : zlk Y_MD_dropPulse 2 := ⟨w_c_MD_dropPulse, w_ini_MD, by decide +kernel, by decide +kernel, by decide⟩
theorem w_ml_MD_53 : Cond.methodLink "SirenFairModel" 53 Y_MD_dropPulse.1 ∈ zWd := zin 1093 (by decide +kernel) rfl
theorem w_st_MD_dropPulse : Cond.static Y_MD_dropPulse.1 ∈ zWd := zin 1094 (by decide +kernel) rfl
theorem lkS_MD_53 : zlkS "SirenFairModel" 53 Y_MD_dropPulse 2 := ⟨lk_MD_dropPulse, w_ml_MD_53, w_st_MD_dropPulse⟩
def Y_MD_isReached : zY := (⟨"SirenFairModel", "isReached", "([III)Z"⟩, prog_10_method_21_code, 4, some .boolean, [])
theorem w_c_MD_pulseAt : Cond.code Y_MD_pulseAt.1 Y_MD_pulseAt.2.1 Y_MD_pulseAt.2.2.1 Y_MD_pulseAt.2.2.2.1 ∈ zWd := zin 1101 (by decide +kernel) rfl
theorem lk_MD_pulseAt : zlk Y_MD_pulseAt 3 := ⟨w_c_MD_pulseAt, w_ini_MD, by decide +kernel, by decide +kernel, by decide⟩
theorem w_ml_MD_67 : Cond.methodLink "SirenFairModel" 67 Y_MD_pulseAt.1 ∈ zWd := zin 1099 (by decide +kernel) rfl
theorem w_st_MD_pulseAt : Cond.static Y_MD_pulseAt.1 ∈ zWd := zin 1100 (by decide +kernel) rfl
theorem lkS_MD_67 : zlkS "SirenFairModel" 67 Y_MD_pulseAt 3 := ⟨lk_MD_pulseAt, w_ml_MD_67, w_st_MD_pulseAt⟩
theorem w_c_MD_ofHearer : Cond.code Y_MD_ofHearer.1 Y_MD_ofHearer.2.1 Y_MD_ofHearer.2.2.1 Y_MD_ofHearer.2.2.2.1 ∈ zWd := zin 1107 (by decide +kernel) rfl
theorem lk_MD_ofHearer : zlk Y_MD_ofHearer 3 := ⟨w_c_MD_ofHearer, w_ini_MD, by decide +kernel, by decide +kernel, by decide⟩
theorem w_ml_MD_70 : Cond.methodLink "SirenFairModel" 70 Y_MD_ofHearer.1 ∈ zWd := zin 1105 (by decide +kernel) rfl
theorem w_st_MD_ofHearer : Cond.static Y_MD_ofHearer.1 ∈ zWd := zin 1106 (by decide +kernel) rfl
theorem lkS_MD_70 : zlkS "SirenFairModel" 70 Y_MD_ofHearer 3 := ⟨lk_MD_ofHearer, w_ml_MD_70, w_st_MD_ofHearer⟩
theorem w_c_MD_without : Cond.code Y_MD_without.1 Y_MD_without.2.1 Y_MD_without.2.2.1 Y_MD_without.2.2.2.1 ∈ zWd := zin 1080 (by decide +kernel) rfl
theorem lk_MD_without : zlk Y_MD_without 1 := ⟨w_c_MD_without, w_ini_MD, by decide +kernel, by decide +kernel, by decide⟩
theorem w_ml_MD_73 : Cond.methodLink "SirenFairModel" 73 Y_MD_without.1 ∈ zWd := zin 1078 (by decide +kernel) rfl
theorem w_st_MD_without : Cond.static Y_MD_without.1 ∈ zWd := zin 1079 (by decide +kernel) rfl
theorem lkS_MD_73 : zlkS "SirenFairModel" 73 Y_MD_without 1 := ⟨lk_MD_without, w_ml_MD_73, w_st_MD_without⟩
def Y_MD_isOnSide : zY := (⟨"SirenFairModel", "isOnSide", "([III)Z"⟩, prog_10_method_22_code, 8, some .boolean, [])
def Y_MD_hear : zY := (⟨"SirenFairModel", "hear", "([III)V"⟩, prog_10_method_24_code, 6, none, [])
def Y_MD_isGone : zY := (⟨"SirenFairModel", "isGone", "([II)Z"⟩, prog_10_method_25_code, 3, some .boolean, [])
def Y_MD_walks : zY := (⟨"SirenFairModel", "walks", "([III)V"⟩, prog_10_method_26_code, 5, none, [])
def Y_MD_isCentre : zY := (⟨"SirenFairModel", "isCentre", "(II)Z"⟩, prog_10_method_30_code, 2, some .boolean, [])
theorem w_k_MD_110 : Cond.constantLong "SirenFairModel" 110 (-30) ∈ zWd := zin 1168 (by decide +kernel) rfl
theorem w_k_MD_112 : Cond.constantLong "SirenFairModel" 112 (30) ∈ zWd := zin 1169 (by decide +kernel) rfl
def Y_MD_isWay : zY := (⟨"SirenFairModel", "isWay", "(II)Z"⟩, prog_10_method_31_code, 2, some .boolean, [])
theorem w_k_MD_114 : Cond.constantLong "SirenFairModel" 114 (-2) ∈ zWd := zin 1189 (by decide +kernel) rfl
theorem w_k_MD_116 : Cond.constantLong "SirenFairModel" 116 (2) ∈ zWd := zin 1190 (by decide +kernel) rfl
def Y_MD_isPlace : zY := (⟨"SirenFairModel", "isPlace", "(II)Z"⟩, prog_10_method_32_code, 2, some .boolean, [])
theorem w_k_MD_118 : Cond.constantLong "SirenFairModel" 118 (-40) ∈ zWd := zin 1184 (by decide +kernel) rfl
theorem w_k_MD_120 : Cond.constantLong "SirenFairModel" 120 (40) ∈ zWd := zin 1185 (by decide +kernel) rfl
def Y_MD_turnOn : zY := (⟨"SirenFairModel", "turnOn", "([IIZ)I"⟩, prog_10_method_36_code, 5, some .int, [])
def Y_MD_walkOn : zY := (⟨"SirenFairModel", "walkOn", "([IIII)I"⟩, prog_10_method_37_code, 4, some .int, [])
def Y_MD_append : zY := (⟨"SirenFairModel", "append", "(I)I"⟩, prog_10_method_39_code, 2, some .int, [])
theorem w_c_MD_refused : Cond.code Y_MD_refused.1 Y_MD_refused.2.1 Y_MD_refused.2.2.1 Y_MD_refused.2.2.2.1 ∈ zWd := zin 1004 (by decide +kernel) rfl
theorem lk_MD_refused : zlk Y_MD_refused 1 := ⟨w_c_MD_refused, w_ini_MD, by decide +kernel, by decide +kernel, by decide⟩
theorem w_ml_MD_127 : Cond.methodLink "SirenFairModel" 127 Y_MD_refused.1 ∈ zWd := zin 1001 (by decide +kernel) rfl
theorem w_im_MD_refused : Cond.instanceMethod Y_MD_refused.1 ∈ zWd := zin 1003 (by decide +kernel) rfl
theorem w_sel_MD_refused : Cond.selects "SirenFairModel" Y_MD_refused.1 Y_MD_refused.1 ∈ zWd := zin 15 (by decide +kernel) rfl
theorem lkV_MD_127 : zlkV "SirenFairModel" 127 Y_MD_refused 1 := ⟨lk_MD_refused, w_ml_MD_127, w_im_MD_refused, w_sel_MD_refused⟩
theorem w_k_MD_122 : Cond.constantLong "SirenFairModel" 122 (255) ∈ zWd := zin 997 (by decide +kernel) rfl
def Y_MD_figures : zY := (⟨"SirenFairModel", "figures", "(IIII)I"⟩, prog_10_method_41_code, 9, some .int, [])
def Y_MD_about : zY := (⟨"SirenFairModel", "about", "(I)I"⟩, prog_10_method_50_code, 4, some .int, [])
def Y_MD_wallOf : zY := (⟨"SirenFairModel", "wallOf", "(II)I"⟩, prog_10_method_54_code, 3, some .int, [])
def Y_MD_pulse : zY := (⟨"SirenFairModel", "pulse", "(II)I"⟩, prog_10_method_55_code, 3, some .int, [])
theorem w_k_MD_198 : Cond.constantLong "SirenFairModel" 198 (5) ∈ zWd := zin 1142 (by decide +kernel) rfl
def Y_MD_sounds : zY := (⟨"SirenFairModel", "sounds", "([III)I"⟩, prog_10_method_56_code, 5, some .int, [])
def Y_MD_remember : zY := (⟨"SirenFairModel", "remember", "()V"⟩, prog_10_method_58_code, 2, none, [])
theorem w_fl_MD_192 : Cond.fieldLink "SirenFairModel" 192 "SirenFairModel" "acts" "I" ∈ zWd := zin 961 (by decide +kernel) rfl
theorem fl_MD_192 : zfl "SirenFairModel" 192 8 6 (.int) false := ⟨_, _, _, _, zc_SirenFairModel, by decide, w_fl_MD_192, rfl, rfl, rfl⟩
theorem w_c_MD_copyState : Cond.code Y_MD_copyState.1 Y_MD_copyState.2.1 Y_MD_copyState.2.2.1 Y_MD_copyState.2.2.2.1 ∈ zWd := zin 1126 (by decide +kernel) rfl
theorem lk_MD_copyState : zlk Y_MD_copyState 4 := ⟨w_c_MD_copyState, w_ini_MD, by decide +kernel, by decide +kernel, by decide⟩
theorem w_ml_MD_188 : Cond.methodLink "SirenFairModel" 188 Y_MD_copyState.1 ∈ zWd := zin 1124 (by decide +kernel) rfl
theorem w_st_MD_copyState : Cond.static Y_MD_copyState.1 ∈ zWd := zin 1125 (by decide +kernel) rfl
theorem lkS_MD_188 : zlkS "SirenFairModel" 188 Y_MD_copyState 4 := ⟨lk_MD_copyState, w_ml_MD_188, w_st_MD_copyState⟩
def Y_MD_undo : zY := (⟨"SirenFairModel", "undo", "()I"⟩, prog_10_method_66_code, 1, some .int, [])
def Y_MD_save : zY := (⟨"SirenFairModel", "save", "(I)I"⟩, prog_10_method_75_code, 2, some .int, [])
def Y_MD_restore : zY := (⟨"SirenFairModel", "restore", "(I)I"⟩, prog_10_method_76_code, 2, some .int, [])
theorem d_MD_thrown_0 : decode Y_MD_thrown.2.1 0 = .ok (.aload_n 0, 1) := by decide +kernel
theorem d_MD_thrown_1 : decode Y_MD_thrown.2.1 1 = .ok (.getfield 33, 3) := by decide +kernel
theorem d_MD_thrown_4 : decode Y_MD_thrown.2.1 4 = .ok (.ireturn, 1) := by decide +kernel
def f_MD_thrown (w : zW) (D : zD) (a : Nat) : Option (Int32 × zD) := zfld w D 8 0 a (fun v1 => some (v1, D))
set_option maxHeartbeats 4000000 in
set_option maxRecDepth 100000 in
theorem c_MD_thrown (z : zT) (D : zD) (a : Nat) : zM Y_MD_thrown 1 0 0 (zqI z) (f_MD_thrown z.2 D a) [.ref a] z D := by
  refine zM_of (plainFor_of_name (by decide +kernel)) rfl (Nat.le_of_ble_eq_true rfl) (fun _ _ _ _ h => nomatch h.1) (fun K => ?_)
  unfold f_MD_thrown
  refine z_aload_n (pc := 0) d_MD_thrown_0 rfl 0 rfl ?_
  refine z_getI (pc := 1) fl_MD_33 d_MD_thrown_1 (fun v1 => ?_)
  exact z_iret (pc := 4) d_MD_thrown_4 rfl
theorem d_MD_refused_0 : decode Y_MD_refused.2.1 0 = .ok (.aload_n 0, 1) := by decide +kernel
theorem d_MD_refused_1 : decode Y_MD_refused.2.1 1 = .ok (.iload_n 1, 1) := by decide +kernel
theorem d_MD_refused_2 : decode Y_MD_refused.2.1 2 = .ok (.putfield 33, 3) := by decide +kernel
theorem d_MD_refused_5 : decode Y_MD_refused.2.1 5 = .ok (.iload_n 1, 1) := by decide +kernel
theorem d_MD_refused_6 : decode Y_MD_refused.2.1 6 = .ok (.ifCond .le (7), 3) := by decide +kernel
theorem d_MD_refused_9 : decode Y_MD_refused.2.1 9 = .ok (.iconst (1), 1) := by decide +kernel
theorem d_MD_refused_10 : decode Y_MD_refused.2.1 10 = .ok (.goto (4), 3) := by decide +kernel
theorem d_MD_refused_13 : decode Y_MD_refused.2.1 13 = .ok (.iconst (0), 1) := by decide +kernel
theorem d_MD_refused_14 : decode Y_MD_refused.2.1 14 = .ok (.ireturn, 1) := by decide +kernel
def f_MD_refused (w : zW) (D : zD) (a : Nat) (x1 : Int32) : Option (Int32 × zD) := zjp (fun (s0 : Int32) (D1 : zD) => zchk (s0 = 0 ∨ s0 = 1) (some (s0, D1))) (fun j14 => zput w D 8 0 a x1 (fun D2 => (if x1 ≤ 0 then j14 (0 : Int32) D2 else j14 (1 : Int32) D2)))
set_option maxHeartbeats 4000000 in
set_option maxRecDepth 100000 in
theorem c_MD_refused (z : zT) (D : zD) (a : Nat) (x1 : Int32) : zM Y_MD_refused 1 0 0 (zqI z) (f_MD_refused z.2 D a x1) [.ref a, .int x1] z D := by
  refine zM_of (plainFor_of_name (by decide +kernel)) rfl (Nat.le_of_ble_eq_true rfl) (fun _ _ _ _ h => nomatch h.1) (fun K => ?_)
  unfold f_MD_refused
  refine z_jp (fun j14 : Int32 → zD → Option (Int32 × zD) => ∀ (s0 : Int32) (D1 : zD), zGO K Y_MD_refused 1 0 0 (zqI z) (j14 s0 D1) 0 0 z D1 14 [] [.int s0]) (fun s0 D1 => ?_) (fun j14 h14 => ?_)
  · exact z_zret (pc := 14) d_MD_refused_14 rfl
  · refine z_aload_n (pc := 0) d_MD_refused_0 rfl 0 rfl ?_
    refine z_iload_n (pc := 1) d_MD_refused_1 rfl 1 rfl ?_
    refine z_putI (pc := 2) fl_MD_33 d_MD_refused_2 (fun D2 => ?_)
    refine z_iload_n (pc := 5) d_MD_refused_5 rfl 1 rfl ?_
    refine z_if_le (pc := 6) (tgt := 13) d_MD_refused_6 (by decide) ?_ ?_
    · refine z_iconst (pc := 13) d_MD_refused_13 ki_0 ?_
      exact z_sub [] rfl (h14 (0 : Int32) D2)
    · refine z_iconst (pc := 9) d_MD_refused_9 ki_1 ?_
      refine z_goto (pc := 10) (tgt := 14) d_MD_refused_10 (by decide) ?_
      exact z_sub [] rfl (h14 (1 : Int32) D2)
theorem d_MD_in_0 : decode Y_MD_in.2.1 0 = .ok (.lload_n 0, 1) := by decide +kernel
theorem d_MD_in_1 : decode Y_MD_in.2.1 1 = .ok (.lload_n 2, 1) := by decide +kernel
theorem d_MD_in_2 : decode Y_MD_in.2.1 2 = .ok (.lcmp, 1) := by decide +kernel
theorem d_MD_in_3 : decode Y_MD_in.2.1 3 = .ok (.ifCond .lt (14), 3) := by decide +kernel
theorem d_MD_in_6 : decode Y_MD_in.2.1 6 = .ok (.lload_n 0, 1) := by decide +kernel
theorem d_MD_in_7 : decode Y_MD_in.2.1 7 = .ok (.lload 4, 2) := by decide +kernel
theorem d_MD_in_9 : decode Y_MD_in.2.1 9 = .ok (.lcmp, 1) := by decide +kernel
theorem d_MD_in_10 : decode Y_MD_in.2.1 10 = .ok (.ifCond .gt (7), 3) := by decide +kernel
theorem d_MD_in_13 : decode Y_MD_in.2.1 13 = .ok (.iconst (1), 1) := by decide +kernel
theorem d_MD_in_14 : decode Y_MD_in.2.1 14 = .ok (.goto (4), 3) := by decide +kernel
theorem d_MD_in_17 : decode Y_MD_in.2.1 17 = .ok (.iconst (0), 1) := by decide +kernel
theorem d_MD_in_18 : decode Y_MD_in.2.1 18 = .ok (.ireturn, 1) := by decide +kernel
def f_MD_in (w : zW) (D : zD) (l0 : Int64) (l2 : Int64) (l4 : Int64) : Option (Int32 × zD) := zjp (fun (s0 : Int32) (D1 : zD) => zchk (s0 = 0 ∨ s0 = 1) (some (s0, D1))) (fun j18 => zjp (fun (D2 : zD) => j18 (0 : Int32) D2) (fun j17 => zlet (lg_cmp l0 l2) (fun v3 => (if v3 < 0 then j17 D else zlet (lg_cmp l0 l4) (fun v4 => (if 0 < v4 then j17 D else j18 (1 : Int32) D))))))
set_option maxHeartbeats 4000000 in
set_option maxRecDepth 100000 in
theorem c_MD_in (z : zT) (D : zD) (l0 : Int64) (l2 : Int64) (l4 : Int64) : zM Y_MD_in 1 0 0 (zqI z) (f_MD_in z.2 D l0 l2 l4) [.long l0, .long l2, .long l4] z D := by
  refine zM_of (plainFor_of_name (by decide +kernel)) rfl (Nat.le_of_ble_eq_true rfl) (fun _ _ _ _ h => nomatch h.1) (fun K => ?_)
  unfold f_MD_in
  refine z_jp (fun j18 : Int32 → zD → Option (Int32 × zD) => ∀ (s0 : Int32) (D1 : zD), zGO K Y_MD_in 1 0 0 (zqI z) (j18 s0 D1) 0 0 z D1 18 [] [.int s0]) (fun s0 D1 => ?_) (fun j18 h18 => ?_)
  · exact z_zret (pc := 18) d_MD_in_18 rfl
  · refine z_jp (fun j17 : zD → Option (Int32 × zD) => ∀ (D2 : zD), zGO K Y_MD_in 1 0 0 (zqI z) (j17  D2) 0 0 z D2 17 [] []) (fun  D2 => ?_) (fun j17 h17 => ?_)
    · refine z_iconst (pc := 17) d_MD_in_17 ki_0 ?_
      exact z_sub [] rfl (h18 (0 : Int32) D2)
    · refine z_lload_n (pc := 0) d_MD_in_0 rfl 0 rfl ?_
      refine z_lload_n (pc := 1) d_MD_in_1 rfl 1 rfl ?_
      refine z_lcmp (pc := 2) d_MD_in_2 (fun v3 => ?_)
      refine z_if_lt (pc := 3) (tgt := 17) d_MD_in_3 (by decide) ?_ ?_
      · exact z_sub [] rfl (h17 D)
      · refine z_lload_n (pc := 6) d_MD_in_6 rfl 0 rfl ?_
        refine z_lload (pc := 7) d_MD_in_7 2 rfl ?_
        refine z_lcmp (pc := 9) d_MD_in_9 (fun v4 => ?_)
        refine z_if_gt (pc := 10) (tgt := 17) d_MD_in_10 (by decide) ?_ ?_
        · exact z_sub [] rfl (h17 D)
        · refine z_iconst (pc := 13) d_MD_in_13 ki_1 ?_
          refine z_goto (pc := 14) (tgt := 18) d_MD_in_14 (by decide) ?_
          exact z_sub [] rfl (h18 (1 : Int32) D)
theorem d_MD_copyState_0 : decode Y_MD_copyState.2.1 0 = .ok (.iconst (0), 1) := by decide +kernel
theorem d_MD_copyState_1 : decode Y_MD_copyState.2.1 1 = .ok (.istore 4, 2) := by decide +kernel
theorem d_MD_copyState_3 : decode Y_MD_copyState.2.1 3 = .ok (.iload 4, 2) := by decide +kernel
theorem d_MD_copyState_5 : decode Y_MD_copyState.2.1 5 = .ok (.sipush (521), 3) := by decide +kernel
theorem d_MD_copyState_8 : decode Y_MD_copyState.2.1 8 = .ok (.if_icmp .ge (21), 3) := by decide +kernel
theorem d_MD_copyState_11 : decode Y_MD_copyState.2.1 11 = .ok (.aload_n 2, 1) := by decide +kernel
theorem d_MD_copyState_12 : decode Y_MD_copyState.2.1 12 = .ok (.iload_n 3, 1) := by decide +kernel
theorem d_MD_copyState_13 : decode Y_MD_copyState.2.1 13 = .ok (.iload 4, 2) := by decide +kernel
theorem d_MD_copyState_15 : decode Y_MD_copyState.2.1 15 = .ok (.iadd, 1) := by decide +kernel
theorem d_MD_copyState_16 : decode Y_MD_copyState.2.1 16 = .ok (.aload_n 0, 1) := by decide +kernel
theorem d_MD_copyState_17 : decode Y_MD_copyState.2.1 17 = .ok (.iload_n 1, 1) := by decide +kernel
theorem d_MD_copyState_18 : decode Y_MD_copyState.2.1 18 = .ok (.iload 4, 2) := by decide +kernel
theorem d_MD_copyState_20 : decode Y_MD_copyState.2.1 20 = .ok (.iadd, 1) := by decide +kernel
theorem d_MD_copyState_21 : decode Y_MD_copyState.2.1 21 = .ok (.iaload, 1) := by decide +kernel
theorem d_MD_copyState_22 : decode Y_MD_copyState.2.1 22 = .ok (.iastore, 1) := by decide +kernel
theorem d_MD_copyState_23 : decode Y_MD_copyState.2.1 23 = .ok (.iinc 4 (1), 3) := by decide +kernel
theorem d_MD_copyState_26 : decode Y_MD_copyState.2.1 26 = .ok (.goto (-23), 3) := by decide +kernel
theorem d_MD_copyState_29 : decode Y_MD_copyState.2.1 29 = .ok (.return_, 1) := by decide +kernel
def f_MD_copyState (w : zW) (D : zD) (r0 : Nat) (x1 : Int32) (r2 : Nat) (x3 : Int32) : Option (zD) := zjp (zlp (fun (_ : Int32) (_ : zD) => none) (fun (j3 : Int32 → zD → Option (zD)) (x4 : Int32) (D1 : zD) => (if (521 : Int32) ≤ x4 then some D1 else zald w D1 0 r0 (x1 + x4) (fun v2 => zast w D1 0 r2 (x3 + x4) v2 (fun D3 => zlet (x4 + (1 : Int32)) (fun v4 => j3 v4 D3))))) zfuel) (fun j3 => j3 (0 : Int32) D)
set_option maxHeartbeats 4000000 in
set_option maxRecDepth 100000 in
theorem c_MD_copyState (z : zT) (D : zD) (r0 : Nat) (x1 : Int32) (r2 : Nat) (x3 : Int32) : zM Y_MD_copyState 1 0 0 (zqV z) (f_MD_copyState z.2 D r0 x1 r2 x3) [.ref r0, .int x1, .ref r2, .int x3] z D := by
  refine zM_of (plainFor_of_name (by decide +kernel)) rfl (Nat.le_of_ble_eq_true rfl) (fun _ _ _ _ h => nomatch h.1) (fun K => ?_)
  unfold f_MD_copyState
  refine z_jp (fun j3 : Int32 → zD → Option (zD) => ∀ (x4 : Int32) (D1 : zD), zGO K Y_MD_copyState 1 0 0 (zqV z) (j3 x4 D1) 0 0 z D1 3 [(0, .ref r0), (1, .int x1), (2, .ref r2), (3, .int x3), (4, .int x4)] []) (z_lp (fun j3 : Int32 → zD → Option (zD) => ∀ (x4 : Int32) (D1 : zD), zGO K Y_MD_copyState 1 0 0 (zqV z) (j3 x4 D1) 0 0 z D1 3 [(0, .ref r0), (1, .int x1), (2, .ref r2), (3, .int x3), (4, .int x4)] []) (fun _ _ => z_none) (fun j3 h3 x4 D1 => ?_) zfuel) (fun j3 h3 => ?_)
  · refine z_iload (pc := 3) d_MD_copyState_3 4 rfl ?_
    refine z_sipush (pc := 5) d_MD_copyState_5 ks_521 ?_
    refine z_icmp_ge (pc := 8) (tgt := 29) d_MD_copyState_8 (by decide) ?_ ?_
    · exact z_vret (pc := 29) d_MD_copyState_29 rfl
    · refine z_aload_n (pc := 11) d_MD_copyState_11 rfl 2 rfl ?_
      refine z_iload_n (pc := 12) d_MD_copyState_12 rfl 3 rfl ?_
      refine z_iload (pc := 13) d_MD_copyState_13 4 rfl ?_
      refine z_iadd (pc := 15) d_MD_copyState_15 ?_
      refine z_aload_n (pc := 16) d_MD_copyState_16 rfl 0 rfl ?_
      refine z_iload_n (pc := 17) d_MD_copyState_17 rfl 1 rfl ?_
      refine z_iload (pc := 18) d_MD_copyState_18 4 rfl ?_
      refine z_iadd (pc := 20) d_MD_copyState_20 ?_
      refine z_iaload (pc := 21) d_MD_copyState_21 (fun v2 => ?_)
      refine z_iastore (pc := 22) d_MD_copyState_22 (fun D3 => ?_)
      refine z_iincL (pc := 23) d_MD_copyState_23 ki_1 4 rfl (by decide) (fun v4 => z_lvc (lv2 := [(4, .int v4), (0, .ref r0), (1, .int x1), (2, .ref r2), (3, .int x3)]) rfl ?_)
      refine z_goto (pc := 26) (tgt := 3) d_MD_copyState_26 (by decide) ?_
      exact z_sub [1, 2, 3, 4, 0] rfl (h3 v4 D3)
  · refine z_iconst (pc := 0) d_MD_copyState_0 ki_0 ?_
    refine z_istore (pc := 1) d_MD_copyState_1 (by decide) (lv' := [(4, .int (0 : Int32)), (0, .ref r0), (1, .int x1), (2, .ref r2), (3, .int x3)]) rfl ?_
    exact z_sub [1, 2, 3, 4, 0] rfl (h3 (0 : Int32) D)
theorem d_MD_clear_0 : decode Y_MD_clear.2.1 0 = .ok (.iconst (0), 1) := by decide +kernel
theorem d_MD_clear_1 : decode Y_MD_clear.2.1 1 = .ok (.istore_n 1, 1) := by decide +kernel
theorem d_MD_clear_2 : decode Y_MD_clear.2.1 2 = .ok (.iload_n 1, 1) := by decide +kernel
theorem d_MD_clear_3 : decode Y_MD_clear.2.1 3 = .ok (.sipush (521), 3) := by decide +kernel
theorem d_MD_clear_6 : decode Y_MD_clear.2.1 6 = .ok (.if_icmp .ge (13), 3) := by decide +kernel
theorem d_MD_clear_9 : decode Y_MD_clear.2.1 9 = .ok (.aload_n 0, 1) := by decide +kernel
theorem d_MD_clear_10 : decode Y_MD_clear.2.1 10 = .ok (.iload_n 1, 1) := by decide +kernel
theorem d_MD_clear_11 : decode Y_MD_clear.2.1 11 = .ok (.iconst (0), 1) := by decide +kernel
theorem d_MD_clear_12 : decode Y_MD_clear.2.1 12 = .ok (.iastore, 1) := by decide +kernel
theorem d_MD_clear_13 : decode Y_MD_clear.2.1 13 = .ok (.iinc 1 (1), 3) := by decide +kernel
theorem d_MD_clear_16 : decode Y_MD_clear.2.1 16 = .ok (.goto (-14), 3) := by decide +kernel
theorem d_MD_clear_19 : decode Y_MD_clear.2.1 19 = .ok (.aload_n 0, 1) := by decide +kernel
theorem d_MD_clear_20 : decode Y_MD_clear.2.1 20 = .ok (.bipush (9), 2) := by decide +kernel
theorem d_MD_clear_22 : decode Y_MD_clear.2.1 22 = .ok (.iconst (3), 1) := by decide +kernel
theorem d_MD_clear_23 : decode Y_MD_clear.2.1 23 = .ok (.iastore, 1) := by decide +kernel
theorem d_MD_clear_24 : decode Y_MD_clear.2.1 24 = .ok (.aload_n 0, 1) := by decide +kernel
theorem d_MD_clear_25 : decode Y_MD_clear.2.1 25 = .ok (.bipush (10), 2) := by decide +kernel
theorem d_MD_clear_27 : decode Y_MD_clear.2.1 27 = .ok (.bipush (40), 2) := by decide +kernel
theorem d_MD_clear_29 : decode Y_MD_clear.2.1 29 = .ok (.iastore, 1) := by decide +kernel
theorem d_MD_clear_30 : decode Y_MD_clear.2.1 30 = .ok (.iconst (0), 1) := by decide +kernel
theorem d_MD_clear_31 : decode Y_MD_clear.2.1 31 = .ok (.istore_n 1, 1) := by decide +kernel
theorem d_MD_clear_32 : decode Y_MD_clear.2.1 32 = .ok (.iload_n 1, 1) := by decide +kernel
theorem d_MD_clear_33 : decode Y_MD_clear.2.1 33 = .ok (.bipush (16), 2) := by decide +kernel
theorem d_MD_clear_35 : decode Y_MD_clear.2.1 35 = .ok (.if_icmp .ge (45), 3) := by decide +kernel
theorem d_MD_clear_38 : decode Y_MD_clear.2.1 38 = .ok (.aload_n 0, 1) := by decide +kernel
theorem d_MD_clear_39 : decode Y_MD_clear.2.1 39 = .ok (.bipush (65), 2) := by decide +kernel
theorem d_MD_clear_41 : decode Y_MD_clear.2.1 41 = .ok (.bipush (6), 2) := by decide +kernel
theorem d_MD_clear_43 : decode Y_MD_clear.2.1 43 = .ok (.iload_n 1, 1) := by decide +kernel
theorem d_MD_clear_44 : decode Y_MD_clear.2.1 44 = .ok (.imul, 1) := by decide +kernel
theorem d_MD_clear_45 : decode Y_MD_clear.2.1 45 = .ok (.iadd, 1) := by decide +kernel
theorem d_MD_clear_46 : decode Y_MD_clear.2.1 46 = .ok (.iconst (3), 1) := by decide +kernel
theorem d_MD_clear_47 : decode Y_MD_clear.2.1 47 = .ok (.iadd, 1) := by decide +kernel
theorem d_MD_clear_48 : decode Y_MD_clear.2.1 48 = .ok (.iconst (-1), 1) := by decide +kernel
theorem d_MD_clear_49 : decode Y_MD_clear.2.1 49 = .ok (.iastore, 1) := by decide +kernel
theorem d_MD_clear_50 : decode Y_MD_clear.2.1 50 = .ok (.aload_n 0, 1) := by decide +kernel
theorem d_MD_clear_51 : decode Y_MD_clear.2.1 51 = .ok (.bipush (65), 2) := by decide +kernel
theorem d_MD_clear_53 : decode Y_MD_clear.2.1 53 = .ok (.bipush (6), 2) := by decide +kernel
theorem d_MD_clear_55 : decode Y_MD_clear.2.1 55 = .ok (.iload_n 1, 1) := by decide +kernel
theorem d_MD_clear_56 : decode Y_MD_clear.2.1 56 = .ok (.imul, 1) := by decide +kernel
theorem d_MD_clear_57 : decode Y_MD_clear.2.1 57 = .ok (.iadd, 1) := by decide +kernel
theorem d_MD_clear_58 : decode Y_MD_clear.2.1 58 = .ok (.iconst (4), 1) := by decide +kernel
theorem d_MD_clear_59 : decode Y_MD_clear.2.1 59 = .ok (.iadd, 1) := by decide +kernel
theorem d_MD_clear_60 : decode Y_MD_clear.2.1 60 = .ok (.iconst (-1), 1) := by decide +kernel
theorem d_MD_clear_61 : decode Y_MD_clear.2.1 61 = .ok (.iastore, 1) := by decide +kernel
theorem d_MD_clear_62 : decode Y_MD_clear.2.1 62 = .ok (.aload_n 0, 1) := by decide +kernel
theorem d_MD_clear_63 : decode Y_MD_clear.2.1 63 = .ok (.bipush (65), 2) := by decide +kernel
theorem d_MD_clear_65 : decode Y_MD_clear.2.1 65 = .ok (.bipush (6), 2) := by decide +kernel
theorem d_MD_clear_67 : decode Y_MD_clear.2.1 67 = .ok (.iload_n 1, 1) := by decide +kernel
theorem d_MD_clear_68 : decode Y_MD_clear.2.1 68 = .ok (.imul, 1) := by decide +kernel
theorem d_MD_clear_69 : decode Y_MD_clear.2.1 69 = .ok (.iadd, 1) := by decide +kernel
theorem d_MD_clear_70 : decode Y_MD_clear.2.1 70 = .ok (.iconst (5), 1) := by decide +kernel
theorem d_MD_clear_71 : decode Y_MD_clear.2.1 71 = .ok (.iadd, 1) := by decide +kernel
theorem d_MD_clear_72 : decode Y_MD_clear.2.1 72 = .ok (.iconst (-1), 1) := by decide +kernel
theorem d_MD_clear_73 : decode Y_MD_clear.2.1 73 = .ok (.iastore, 1) := by decide +kernel
theorem d_MD_clear_74 : decode Y_MD_clear.2.1 74 = .ok (.iinc 1 (1), 3) := by decide +kernel
theorem d_MD_clear_77 : decode Y_MD_clear.2.1 77 = .ok (.goto (-45), 3) := by decide +kernel
theorem d_MD_clear_80 : decode Y_MD_clear.2.1 80 = .ok (.return_, 1) := by decide +kernel
def f_MD_clear (w : zW) (D : zD) (r0 : Nat) : Option (zD) := zjp (zlp (fun (_ : Int32) (_ : zD) => none) (fun (j2 : Int32 → zD → Option (zD)) (x1 : Int32) (D1 : zD) => (if (521 : Int32) ≤ x1 then zjp (zlp (fun (_ : Int32) (_ : zD) => none) (fun (j32 : Int32 → zD → Option (zD)) (x1 : Int32) (D2 : zD) => (if (16 : Int32) ≤ x1 then some D2 else zast w D2 0 r0 (((65 : Int32) + ((6 : Int32) * x1)) + (3 : Int32)) (-1 : Int32) (fun D3 => zast w D3 0 r0 (((65 : Int32) + ((6 : Int32) * x1)) + (4 : Int32)) (-1 : Int32) (fun D4 => zast w D4 0 r0 (((65 : Int32) + ((6 : Int32) * x1)) + (5 : Int32)) (-1 : Int32) (fun D5 => zlet (x1 + (1 : Int32)) (fun v6 => j32 v6 D5)))))) zfuel) (fun j32 => zast w D1 0 r0 (9 : Int32) (3 : Int32) (fun D7 => zast w D7 0 r0 (10 : Int32) (40 : Int32) (fun D8 => j32 (0 : Int32) D8))) else zast w D1 0 r0 x1 (0 : Int32) (fun D9 => zlet (x1 + (1 : Int32)) (fun v10 => j2 v10 D9)))) zfuel) (fun j2 => j2 (0 : Int32) D)
set_option maxHeartbeats 4000000 in
set_option maxRecDepth 100000 in
theorem c_MD_clear (z : zT) (D : zD) (r0 : Nat) : zM Y_MD_clear 1 0 0 (zqV z) (f_MD_clear z.2 D r0) [.ref r0] z D := by
  refine zM_of (plainFor_of_name (by decide +kernel)) rfl (Nat.le_of_ble_eq_true rfl) (fun _ _ _ _ h => nomatch h.1) (fun K => ?_)
  unfold f_MD_clear
  refine z_jp (fun j2 : Int32 → zD → Option (zD) => ∀ (x1 : Int32) (D1 : zD), zGO K Y_MD_clear 1 0 0 (zqV z) (j2 x1 D1) 0 0 z D1 2 [(0, .ref r0), (1, .int x1)] []) (z_lp (fun j2 : Int32 → zD → Option (zD) => ∀ (x1 : Int32) (D1 : zD), zGO K Y_MD_clear 1 0 0 (zqV z) (j2 x1 D1) 0 0 z D1 2 [(0, .ref r0), (1, .int x1)] []) (fun _ _ => z_none) (fun j2 h2 x1 D1 => ?_) zfuel) (fun j2 h2 => ?_)
  · refine z_iload_n (pc := 2) d_MD_clear_2 rfl 1 rfl ?_
    refine z_sipush (pc := 3) d_MD_clear_3 ks_521 ?_
    refine z_icmp_ge (pc := 6) (tgt := 19) d_MD_clear_6 (by decide) ?_ ?_
    · refine z_jp (fun j32 : Int32 → zD → Option (zD) => ∀ (x1 : Int32) (D2 : zD), zGO K Y_MD_clear 1 0 0 (zqV z) (j32 x1 D2) 0 0 z D2 32 [(0, .ref r0), (1, .int x1)] []) (z_lp (fun j32 : Int32 → zD → Option (zD) => ∀ (x1 : Int32) (D2 : zD), zGO K Y_MD_clear 1 0 0 (zqV z) (j32 x1 D2) 0 0 z D2 32 [(0, .ref r0), (1, .int x1)] []) (fun _ _ => z_none) (fun j32 h32 x1 D2 => ?_) zfuel) (fun j32 h32 => ?_)
      · refine z_iload_n (pc := 32) d_MD_clear_32 rfl 1 rfl ?_
        refine z_bipush (pc := 33) d_MD_clear_33 kb_16 ?_
        refine z_icmp_ge (pc := 35) (tgt := 80) d_MD_clear_35 (by decide) ?_ ?_
        · exact z_vret (pc := 80) d_MD_clear_80 rfl
        · refine z_aload_n (pc := 38) d_MD_clear_38 rfl 0 rfl ?_
          refine z_bipush (pc := 39) d_MD_clear_39 kb_65 ?_
          refine z_bipush (pc := 41) d_MD_clear_41 kb_6 ?_
          refine z_iload_n (pc := 43) d_MD_clear_43 rfl 1 rfl ?_
          refine z_imul (pc := 44) d_MD_clear_44 ?_
          refine z_iadd (pc := 45) d_MD_clear_45 ?_
          refine z_iconst (pc := 46) d_MD_clear_46 ki_3 ?_
          refine z_iadd (pc := 47) d_MD_clear_47 ?_
          refine z_iconst (pc := 48) d_MD_clear_48 ki_m1 ?_
          refine z_iastore (pc := 49) d_MD_clear_49 (fun D3 => ?_)
          refine z_aload_n (pc := 50) d_MD_clear_50 rfl 0 rfl ?_
          refine z_bipush (pc := 51) d_MD_clear_51 kb_65 ?_
          refine z_bipush (pc := 53) d_MD_clear_53 kb_6 ?_
          refine z_iload_n (pc := 55) d_MD_clear_55 rfl 1 rfl ?_
          refine z_imul (pc := 56) d_MD_clear_56 ?_
          refine z_iadd (pc := 57) d_MD_clear_57 ?_
          refine z_iconst (pc := 58) d_MD_clear_58 ki_4 ?_
          refine z_iadd (pc := 59) d_MD_clear_59 ?_
          refine z_iconst (pc := 60) d_MD_clear_60 ki_m1 ?_
          refine z_iastore (pc := 61) d_MD_clear_61 (fun D4 => ?_)
          refine z_aload_n (pc := 62) d_MD_clear_62 rfl 0 rfl ?_
          refine z_bipush (pc := 63) d_MD_clear_63 kb_65 ?_
          refine z_bipush (pc := 65) d_MD_clear_65 kb_6 ?_
          refine z_iload_n (pc := 67) d_MD_clear_67 rfl 1 rfl ?_
          refine z_imul (pc := 68) d_MD_clear_68 ?_
          refine z_iadd (pc := 69) d_MD_clear_69 ?_
          refine z_iconst (pc := 70) d_MD_clear_70 ki_5 ?_
          refine z_iadd (pc := 71) d_MD_clear_71 ?_
          refine z_iconst (pc := 72) d_MD_clear_72 ki_m1 ?_
          refine z_iastore (pc := 73) d_MD_clear_73 (fun D5 => ?_)
          refine z_iincL (pc := 74) d_MD_clear_74 ki_1 1 rfl (by decide) (fun v6 => z_lvc (lv2 := [(1, .int v6), (0, .ref r0)]) rfl ?_)
          refine z_goto (pc := 77) (tgt := 32) d_MD_clear_77 (by decide) ?_
          exact z_sub [1, 0] rfl (h32 v6 D5)
      · refine z_aload_n (pc := 19) d_MD_clear_19 rfl 0 rfl ?_
        refine z_bipush (pc := 20) d_MD_clear_20 kb_9 ?_
        refine z_iconst (pc := 22) d_MD_clear_22 ki_3 ?_
        refine z_iastore (pc := 23) d_MD_clear_23 (fun D7 => ?_)
        refine z_aload_n (pc := 24) d_MD_clear_24 rfl 0 rfl ?_
        refine z_bipush (pc := 25) d_MD_clear_25 kb_10 ?_
        refine z_bipush (pc := 27) d_MD_clear_27 kb_40 ?_
        refine z_iastore (pc := 29) d_MD_clear_29 (fun D8 => ?_)
        refine z_iconst (pc := 30) d_MD_clear_30 ki_0 ?_
        refine z_istore_n (pc := 31) d_MD_clear_31 rfl (by decide) (lv' := [(1, .int (0 : Int32)), (0, .ref r0)]) rfl ?_
        exact z_sub [1, 0] rfl (h32 (0 : Int32) D8)
    · refine z_aload_n (pc := 9) d_MD_clear_9 rfl 0 rfl ?_
      refine z_iload_n (pc := 10) d_MD_clear_10 rfl 1 rfl ?_
      refine z_iconst (pc := 11) d_MD_clear_11 ki_0 ?_
      refine z_iastore (pc := 12) d_MD_clear_12 (fun D9 => ?_)
      refine z_iincL (pc := 13) d_MD_clear_13 ki_1 1 rfl (by decide) (fun v10 => z_lvc (lv2 := [(1, .int v10), (0, .ref r0)]) rfl ?_)
      refine z_goto (pc := 16) (tgt := 2) d_MD_clear_16 (by decide) ?_
      exact z_sub [1, 0] rfl (h2 v10 D9)
  · refine z_iconst (pc := 0) d_MD_clear_0 ki_0 ?_
    refine z_istore_n (pc := 1) d_MD_clear_1 rfl (by decide) (lv' := [(1, .int (0 : Int32)), (0, .ref r0)]) rfl ?_
    exact z_sub [1, 0] rfl (h2 (0 : Int32) D)
theorem d_MD_ofSiren_0 : decode Y_MD_ofSiren.2.1 0 = .ok (.aload_n 0, 1) := by decide +kernel
theorem d_MD_ofSiren_1 : decode Y_MD_ofSiren.2.1 1 = .ok (.bipush (11), 2) := by decide +kernel
theorem d_MD_ofSiren_3 : decode Y_MD_ofSiren.2.1 3 = .ok (.bipush (7), 2) := by decide +kernel
theorem d_MD_ofSiren_5 : decode Y_MD_ofSiren.2.1 5 = .ok (.iload_n 1, 1) := by decide +kernel
theorem d_MD_ofSiren_6 : decode Y_MD_ofSiren.2.1 6 = .ok (.imul, 1) := by decide +kernel
theorem d_MD_ofSiren_7 : decode Y_MD_ofSiren.2.1 7 = .ok (.iadd, 1) := by decide +kernel
theorem d_MD_ofSiren_8 : decode Y_MD_ofSiren.2.1 8 = .ok (.iload_n 2, 1) := by decide +kernel
theorem d_MD_ofSiren_9 : decode Y_MD_ofSiren.2.1 9 = .ok (.iadd, 1) := by decide +kernel
theorem d_MD_ofSiren_10 : decode Y_MD_ofSiren.2.1 10 = .ok (.iaload, 1) := by decide +kernel
theorem d_MD_ofSiren_11 : decode Y_MD_ofSiren.2.1 11 = .ok (.ireturn, 1) := by decide +kernel
def f_MD_ofSiren (w : zW) (D : zD) (r0 : Nat) (x1 : Int32) (x2 : Int32) : Option (Int32 × zD) := zald w D 0 r0 (((11 : Int32) + ((7 : Int32) * x1)) + x2) (fun v1 => some (v1, D))
set_option maxHeartbeats 4000000 in
set_option maxRecDepth 100000 in
theorem c_MD_ofSiren (z : zT) (D : zD) (r0 : Nat) (x1 : Int32) (x2 : Int32) : zM Y_MD_ofSiren 1 0 0 (zqI z) (f_MD_ofSiren z.2 D r0 x1 x2) [.ref r0, .int x1, .int x2] z D := by
  refine zM_of (plainFor_of_name (by decide +kernel)) rfl (Nat.le_of_ble_eq_true rfl) (fun _ _ _ _ h => nomatch h.1) (fun K => ?_)
  unfold f_MD_ofSiren
  refine z_aload_n (pc := 0) d_MD_ofSiren_0 rfl 0 rfl ?_
  refine z_bipush (pc := 1) d_MD_ofSiren_1 kb_11 ?_
  refine z_bipush (pc := 3) d_MD_ofSiren_3 kb_7 ?_
  refine z_iload_n (pc := 5) d_MD_ofSiren_5 rfl 1 rfl ?_
  refine z_imul (pc := 6) d_MD_ofSiren_6 ?_
  refine z_iadd (pc := 7) d_MD_ofSiren_7 ?_
  refine z_iload_n (pc := 8) d_MD_ofSiren_8 rfl 2 rfl ?_
  refine z_iadd (pc := 9) d_MD_ofSiren_9 ?_
  refine z_iaload (pc := 10) d_MD_ofSiren_10 (fun v1 => ?_)
  exact z_iret (pc := 11) d_MD_ofSiren_11 rfl
theorem d_MD_ofHearer_0 : decode Y_MD_ofHearer.2.1 0 = .ok (.aload_n 0, 1) := by decide +kernel
theorem d_MD_ofHearer_1 : decode Y_MD_ofHearer.2.1 1 = .ok (.bipush (39), 2) := by decide +kernel
theorem d_MD_ofHearer_3 : decode Y_MD_ofHearer.2.1 3 = .ok (.iconst (5), 1) := by decide +kernel
theorem d_MD_ofHearer_4 : decode Y_MD_ofHearer.2.1 4 = .ok (.iload_n 1, 1) := by decide +kernel
theorem d_MD_ofHearer_5 : decode Y_MD_ofHearer.2.1 5 = .ok (.imul, 1) := by decide +kernel
theorem d_MD_ofHearer_6 : decode Y_MD_ofHearer.2.1 6 = .ok (.iadd, 1) := by decide +kernel
theorem d_MD_ofHearer_7 : decode Y_MD_ofHearer.2.1 7 = .ok (.iload_n 2, 1) := by decide +kernel
theorem d_MD_ofHearer_8 : decode Y_MD_ofHearer.2.1 8 = .ok (.iadd, 1) := by decide +kernel
theorem d_MD_ofHearer_9 : decode Y_MD_ofHearer.2.1 9 = .ok (.iaload, 1) := by decide +kernel
theorem d_MD_ofHearer_10 : decode Y_MD_ofHearer.2.1 10 = .ok (.ireturn, 1) := by decide +kernel
def f_MD_ofHearer (w : zW) (D : zD) (r0 : Nat) (x1 : Int32) (x2 : Int32) : Option (Int32 × zD) := zald w D 0 r0 (((39 : Int32) + ((5 : Int32) * x1)) + x2) (fun v1 => some (v1, D))
set_option maxHeartbeats 4000000 in
set_option maxRecDepth 100000 in
theorem c_MD_ofHearer (z : zT) (D : zD) (r0 : Nat) (x1 : Int32) (x2 : Int32) : zM Y_MD_ofHearer 1 0 0 (zqI z) (f_MD_ofHearer z.2 D r0 x1 x2) [.ref r0, .int x1, .int x2] z D := by
  refine zM_of (plainFor_of_name (by decide +kernel)) rfl (Nat.le_of_ble_eq_true rfl) (fun _ _ _ _ h => nomatch h.1) (fun K => ?_)
  unfold f_MD_ofHearer
  refine z_aload_n (pc := 0) d_MD_ofHearer_0 rfl 0 rfl ?_
  refine z_bipush (pc := 1) d_MD_ofHearer_1 kb_39 ?_
  refine z_iconst (pc := 3) d_MD_ofHearer_3 ki_5 ?_
  refine z_iload_n (pc := 4) d_MD_ofHearer_4 rfl 1 rfl ?_
  refine z_imul (pc := 5) d_MD_ofHearer_5 ?_
  refine z_iadd (pc := 6) d_MD_ofHearer_6 ?_
  refine z_iload_n (pc := 7) d_MD_ofHearer_7 rfl 2 rfl ?_
  refine z_iadd (pc := 8) d_MD_ofHearer_8 ?_
  refine z_iaload (pc := 9) d_MD_ofHearer_9 (fun v1 => ?_)
  exact z_iret (pc := 10) d_MD_ofHearer_10 rfl
theorem d_MD_pulseAt_0 : decode Y_MD_pulseAt.2.1 0 = .ok (.aload_n 0, 1) := by decide +kernel
theorem d_MD_pulseAt_1 : decode Y_MD_pulseAt.2.1 1 = .ok (.sipush (161), 3) := by decide +kernel
theorem d_MD_pulseAt_4 : decode Y_MD_pulseAt.2.1 4 = .ok (.bipush (6), 2) := by decide +kernel
theorem d_MD_pulseAt_6 : decode Y_MD_pulseAt.2.1 6 = .ok (.iload_n 1, 1) := by decide +kernel
theorem d_MD_pulseAt_7 : decode Y_MD_pulseAt.2.1 7 = .ok (.imul, 1) := by decide +kernel
theorem d_MD_pulseAt_8 : decode Y_MD_pulseAt.2.1 8 = .ok (.iadd, 1) := by decide +kernel
theorem d_MD_pulseAt_9 : decode Y_MD_pulseAt.2.1 9 = .ok (.iload_n 2, 1) := by decide +kernel
theorem d_MD_pulseAt_10 : decode Y_MD_pulseAt.2.1 10 = .ok (.iadd, 1) := by decide +kernel
theorem d_MD_pulseAt_11 : decode Y_MD_pulseAt.2.1 11 = .ok (.iaload, 1) := by decide +kernel
theorem d_MD_pulseAt_12 : decode Y_MD_pulseAt.2.1 12 = .ok (.ireturn, 1) := by decide +kernel
def f_MD_pulseAt (w : zW) (D : zD) (r0 : Nat) (x1 : Int32) (x2 : Int32) : Option (Int32 × zD) := zald w D 0 r0 (((161 : Int32) + ((6 : Int32) * x1)) + x2) (fun v1 => some (v1, D))
set_option maxHeartbeats 4000000 in
set_option maxRecDepth 100000 in
theorem c_MD_pulseAt (z : zT) (D : zD) (r0 : Nat) (x1 : Int32) (x2 : Int32) : zM Y_MD_pulseAt 1 0 0 (zqI z) (f_MD_pulseAt z.2 D r0 x1 x2) [.ref r0, .int x1, .int x2] z D := by
  refine zM_of (plainFor_of_name (by decide +kernel)) rfl (Nat.le_of_ble_eq_true rfl) (fun _ _ _ _ h => nomatch h.1) (fun K => ?_)
  unfold f_MD_pulseAt
  refine z_aload_n (pc := 0) d_MD_pulseAt_0 rfl 0 rfl ?_
  refine z_sipush (pc := 1) d_MD_pulseAt_1 ks_161 ?_
  refine z_bipush (pc := 4) d_MD_pulseAt_4 kb_6 ?_
  refine z_iload_n (pc := 6) d_MD_pulseAt_6 rfl 1 rfl ?_
  refine z_imul (pc := 7) d_MD_pulseAt_7 ?_
  refine z_iadd (pc := 8) d_MD_pulseAt_8 ?_
  refine z_iload_n (pc := 9) d_MD_pulseAt_9 rfl 2 rfl ?_
  refine z_iadd (pc := 10) d_MD_pulseAt_10 ?_
  refine z_iaload (pc := 11) d_MD_pulseAt_11 (fun v1 => ?_)
  exact z_iret (pc := 12) d_MD_pulseAt_12 rfl
theorem d_MD_without_0 : decode Y_MD_without.2.1 0 = .ok (.iload_n 0, 1) := by decide +kernel
theorem d_MD_without_1 : decode Y_MD_without.2.1 1 = .ok (.ifCond .ge (8), 3) := by decide +kernel
theorem d_MD_without_4 : decode Y_MD_without.2.1 4 = .ok (.iload_n 0, 1) := by decide +kernel
theorem d_MD_without_5 : decode Y_MD_without.2.1 5 = .ok (.ineg, 1) := by decide +kernel
theorem d_MD_without_6 : decode Y_MD_without.2.1 6 = .ok (.goto (4), 3) := by decide +kernel
theorem d_MD_without_9 : decode Y_MD_without.2.1 9 = .ok (.iload_n 0, 1) := by decide +kernel
theorem d_MD_without_10 : decode Y_MD_without.2.1 10 = .ok (.ireturn, 1) := by decide +kernel
def f_MD_without (w : zW) (D : zD) (x0 : Int32) : Option (Int32 × zD) := zjp (fun (s0 : Int32) (D1 : zD) => some (s0, D1)) (fun j10 => (if 0 ≤ x0 then j10 x0 D else j10 (-x0) D))
set_option maxHeartbeats 4000000 in
set_option maxRecDepth 100000 in
theorem c_MD_without (z : zT) (D : zD) (x0 : Int32) : zM Y_MD_without 1 0 0 (zqI z) (f_MD_without z.2 D x0) [.int x0] z D := by
  refine zM_of (plainFor_of_name (by decide +kernel)) rfl (Nat.le_of_ble_eq_true rfl) (fun _ _ _ _ h => nomatch h.1) (fun K => ?_)
  unfold f_MD_without
  refine z_jp (fun j10 : Int32 → zD → Option (Int32 × zD) => ∀ (s0 : Int32) (D1 : zD), zGO K Y_MD_without 1 0 0 (zqI z) (j10 s0 D1) 0 0 z D1 10 [] [.int s0]) (fun s0 D1 => ?_) (fun j10 h10 => ?_)
  · exact z_iret (pc := 10) d_MD_without_10 rfl
  · refine z_iload_n (pc := 0) d_MD_without_0 rfl 0 rfl ?_
    refine z_if_ge (pc := 1) (tgt := 9) d_MD_without_1 (by decide) ?_ ?_
    · refine z_iload_n (pc := 9) d_MD_without_9 rfl 0 rfl ?_
      exact z_sub [] rfl (h10 x0 D)
    · refine z_iload_n (pc := 4) d_MD_without_4 rfl 0 rfl ?_
      refine z_ineg (pc := 5) d_MD_without_5 ?_
      refine z_goto (pc := 6) (tgt := 10) d_MD_without_6 (by decide) ?_
      exact z_sub [] rfl (h10 (-x0) D)
theorem d_MD_dropPulse_0 : decode Y_MD_dropPulse.2.1 0 = .ok (.sipush (161), 3) := by decide +kernel
theorem d_MD_dropPulse_3 : decode Y_MD_dropPulse.2.1 3 = .ok (.bipush (6), 2) := by decide +kernel
theorem d_MD_dropPulse_5 : decode Y_MD_dropPulse.2.1 5 = .ok (.iload_n 1, 1) := by decide +kernel
theorem d_MD_dropPulse_6 : decode Y_MD_dropPulse.2.1 6 = .ok (.imul, 1) := by decide +kernel
theorem d_MD_dropPulse_7 : decode Y_MD_dropPulse.2.1 7 = .ok (.iadd, 1) := by decide +kernel
theorem d_MD_dropPulse_8 : decode Y_MD_dropPulse.2.1 8 = .ok (.istore_n 2, 1) := by decide +kernel
theorem d_MD_dropPulse_9 : decode Y_MD_dropPulse.2.1 9 = .ok (.iload_n 2, 1) := by decide +kernel
theorem d_MD_dropPulse_10 : decode Y_MD_dropPulse.2.1 10 = .ok (.sipush (161), 3) := by decide +kernel
theorem d_MD_dropPulse_13 : decode Y_MD_dropPulse.2.1 13 = .ok (.bipush (6), 2) := by decide +kernel
theorem d_MD_dropPulse_15 : decode Y_MD_dropPulse.2.1 15 = .ok (.aload_n 0, 1) := by decide +kernel
theorem d_MD_dropPulse_16 : decode Y_MD_dropPulse.2.1 16 = .ok (.iconst (4), 1) := by decide +kernel
theorem d_MD_dropPulse_17 : decode Y_MD_dropPulse.2.1 17 = .ok (.iaload, 1) := by decide +kernel
theorem d_MD_dropPulse_18 : decode Y_MD_dropPulse.2.1 18 = .ok (.iconst (1), 1) := by decide +kernel
theorem d_MD_dropPulse_19 : decode Y_MD_dropPulse.2.1 19 = .ok (.isub, 1) := by decide +kernel
theorem d_MD_dropPulse_20 : decode Y_MD_dropPulse.2.1 20 = .ok (.imul, 1) := by decide +kernel
theorem d_MD_dropPulse_21 : decode Y_MD_dropPulse.2.1 21 = .ok (.iadd, 1) := by decide +kernel
theorem d_MD_dropPulse_22 : decode Y_MD_dropPulse.2.1 22 = .ok (.if_icmp .ge (18), 3) := by decide +kernel
theorem d_MD_dropPulse_25 : decode Y_MD_dropPulse.2.1 25 = .ok (.aload_n 0, 1) := by decide +kernel
theorem d_MD_dropPulse_26 : decode Y_MD_dropPulse.2.1 26 = .ok (.iload_n 2, 1) := by decide +kernel
theorem d_MD_dropPulse_27 : decode Y_MD_dropPulse.2.1 27 = .ok (.aload_n 0, 1) := by decide +kernel
theorem d_MD_dropPulse_28 : decode Y_MD_dropPulse.2.1 28 = .ok (.iload_n 2, 1) := by decide +kernel
theorem d_MD_dropPulse_29 : decode Y_MD_dropPulse.2.1 29 = .ok (.bipush (6), 2) := by decide +kernel
theorem d_MD_dropPulse_31 : decode Y_MD_dropPulse.2.1 31 = .ok (.iadd, 1) := by decide +kernel
theorem d_MD_dropPulse_32 : decode Y_MD_dropPulse.2.1 32 = .ok (.iaload, 1) := by decide +kernel
theorem d_MD_dropPulse_33 : decode Y_MD_dropPulse.2.1 33 = .ok (.iastore, 1) := by decide +kernel
theorem d_MD_dropPulse_34 : decode Y_MD_dropPulse.2.1 34 = .ok (.iinc 2 (1), 3) := by decide +kernel
theorem d_MD_dropPulse_37 : decode Y_MD_dropPulse.2.1 37 = .ok (.goto (-28), 3) := by decide +kernel
theorem d_MD_dropPulse_40 : decode Y_MD_dropPulse.2.1 40 = .ok (.aload_n 0, 1) := by decide +kernel
theorem d_MD_dropPulse_41 : decode Y_MD_dropPulse.2.1 41 = .ok (.iconst (4), 1) := by decide +kernel
theorem d_MD_dropPulse_42 : decode Y_MD_dropPulse.2.1 42 = .ok (.dup2, 1) := by decide +kernel
theorem d_MD_dropPulse_43 : decode Y_MD_dropPulse.2.1 43 = .ok (.iaload, 1) := by decide +kernel
theorem d_MD_dropPulse_44 : decode Y_MD_dropPulse.2.1 44 = .ok (.iconst (1), 1) := by decide +kernel
theorem d_MD_dropPulse_45 : decode Y_MD_dropPulse.2.1 45 = .ok (.isub, 1) := by decide +kernel
theorem d_MD_dropPulse_46 : decode Y_MD_dropPulse.2.1 46 = .ok (.iastore, 1) := by decide +kernel
theorem d_MD_dropPulse_47 : decode Y_MD_dropPulse.2.1 47 = .ok (.return_, 1) := by decide +kernel
def f_MD_dropPulse (w : zW) (D : zD) (r0 : Nat) (x1 : Int32) : Option (zD) := zjp (zlp (fun (_ : Int32) (_ : zD) => none) (fun (j9 : Int32 → zD → Option (zD)) (x2 : Int32) (D1 : zD) => zald w D1 0 r0 (4 : Int32) (fun v2 => (if ((161 : Int32) + ((6 : Int32) * (v2 - (1 : Int32)))) ≤ x2 then zald w D1 0 r0 (4 : Int32) (fun v3 => zast w D1 0 r0 (4 : Int32) (v3 - (1 : Int32)) (fun D4 => some D4)) else zald w D1 0 r0 (x2 + (6 : Int32)) (fun v5 => zast w D1 0 r0 x2 v5 (fun D6 => zlet (x2 + (1 : Int32)) (fun v7 => j9 v7 D6)))))) zfuel) (fun j9 => zlet ((161 : Int32) + ((6 : Int32) * x1)) (fun v8 => j9 v8 D))
set_option maxHeartbeats 4000000 in
set_option maxRecDepth 100000 in
theorem c_MD_dropPulse (z : zT) (D : zD) (r0 : Nat) (x1 : Int32) : zM Y_MD_dropPulse 1 0 0 (zqV z) (f_MD_dropPulse z.2 D r0 x1) [.ref r0, .int x1] z D := by
  refine zM_of (plainFor_of_name (by decide +kernel)) rfl (Nat.le_of_ble_eq_true rfl) (fun _ _ _ _ h => nomatch h.1) (fun K => ?_)
  unfold f_MD_dropPulse
  refine z_jp (fun j9 : Int32 → zD → Option (zD) => ∀ (x2 : Int32) (D1 : zD), zGO K Y_MD_dropPulse 1 0 0 (zqV z) (j9 x2 D1) 0 0 z D1 9 [(0, .ref r0), (2, .int x2)] []) (z_lp (fun j9 : Int32 → zD → Option (zD) => ∀ (x2 : Int32) (D1 : zD), zGO K Y_MD_dropPulse 1 0 0 (zqV z) (j9 x2 D1) 0 0 z D1 9 [(0, .ref r0), (2, .int x2)] []) (fun _ _ => z_none) (fun j9 h9 x2 D1 => ?_) zfuel) (fun j9 h9 => ?_)
  · refine z_iload_n (pc := 9) d_MD_dropPulse_9 rfl 1 rfl ?_
    refine z_sipush (pc := 10) d_MD_dropPulse_10 ks_161 ?_
    refine z_bipush (pc := 13) d_MD_dropPulse_13 kb_6 ?_
    refine z_aload_n (pc := 15) d_MD_dropPulse_15 rfl 0 rfl ?_
    refine z_iconst (pc := 16) d_MD_dropPulse_16 ki_4 ?_
    refine z_iaload (pc := 17) d_MD_dropPulse_17 (fun v2 => ?_)
    refine z_iconst (pc := 18) d_MD_dropPulse_18 ki_1 ?_
    refine z_isub (pc := 19) d_MD_dropPulse_19 ?_
    refine z_imul (pc := 20) d_MD_dropPulse_20 ?_
    refine z_iadd (pc := 21) d_MD_dropPulse_21 ?_
    refine z_icmp_ge (pc := 22) (tgt := 40) d_MD_dropPulse_22 (by decide) ?_ ?_
    · refine z_aload_n (pc := 40) d_MD_dropPulse_40 rfl 0 rfl ?_
      refine z_iconst (pc := 41) d_MD_dropPulse_41 ki_4 ?_
      refine z_dup2 (pc := 42) d_MD_dropPulse_42 rfl rfl ?_
      refine z_iaload (pc := 43) d_MD_dropPulse_43 (fun v3 => ?_)
      refine z_iconst (pc := 44) d_MD_dropPulse_44 ki_1 ?_
      refine z_isub (pc := 45) d_MD_dropPulse_45 ?_
      refine z_iastore (pc := 46) d_MD_dropPulse_46 (fun D4 => ?_)
      exact z_vret (pc := 47) d_MD_dropPulse_47 rfl
    · refine z_aload_n (pc := 25) d_MD_dropPulse_25 rfl 0 rfl ?_
      refine z_iload_n (pc := 26) d_MD_dropPulse_26 rfl 1 rfl ?_
      refine z_aload_n (pc := 27) d_MD_dropPulse_27 rfl 0 rfl ?_
      refine z_iload_n (pc := 28) d_MD_dropPulse_28 rfl 1 rfl ?_
      refine z_bipush (pc := 29) d_MD_dropPulse_29 kb_6 ?_
      refine z_iadd (pc := 31) d_MD_dropPulse_31 ?_
      refine z_iaload (pc := 32) d_MD_dropPulse_32 (fun v5 => ?_)
      refine z_iastore (pc := 33) d_MD_dropPulse_33 (fun D6 => ?_)
      refine z_iincL (pc := 34) d_MD_dropPulse_34 ki_1 1 rfl (by decide) (fun v7 => z_lvc (lv2 := [(2, .int v7), (0, .ref r0)]) rfl ?_)
      refine z_goto (pc := 37) (tgt := 9) d_MD_dropPulse_37 (by decide) ?_
      exact z_sub [1, 0] rfl (h9 v7 D6)
  · refine z_sipush (pc := 0) d_MD_dropPulse_0 ks_161 ?_
    refine z_bipush (pc := 3) d_MD_dropPulse_3 kb_6 ?_
    refine z_iload_n (pc := 5) d_MD_dropPulse_5 rfl 1 rfl ?_
    refine z_imul (pc := 6) d_MD_dropPulse_6 ?_
    refine z_iadd (pc := 7) d_MD_dropPulse_7 ?_
    refine z_leti (fun v8 => ?_)
    refine z_istore_n (pc := 8) d_MD_dropPulse_8 rfl (by decide) (lv' := [(2, .int v8), (0, .ref r0), (1, .int x1)]) rfl ?_
    exact z_sub [1, 0] rfl (h9 v8 D)
theorem d_MD_beats_0 : decode Y_MD_beats.2.1 0 = .ok (.iconst (0), 1) := by decide +kernel
theorem d_MD_beats_1 : decode Y_MD_beats.2.1 1 = .ok (.istore_n 2, 1) := by decide +kernel
theorem d_MD_beats_2 : decode Y_MD_beats.2.1 2 = .ok (.iconst (0), 1) := by decide +kernel
theorem d_MD_beats_3 : decode Y_MD_beats.2.1 3 = .ok (.istore_n 3, 1) := by decide +kernel
theorem d_MD_beats_4 : decode Y_MD_beats.2.1 4 = .ok (.iload_n 3, 1) := by decide +kernel
theorem d_MD_beats_5 : decode Y_MD_beats.2.1 5 = .ok (.aload_n 0, 1) := by decide +kernel
theorem d_MD_beats_6 : decode Y_MD_beats.2.1 6 = .ok (.iconst (0), 1) := by decide +kernel
theorem d_MD_beats_7 : decode Y_MD_beats.2.1 7 = .ok (.iaload, 1) := by decide +kernel
theorem d_MD_beats_8 : decode Y_MD_beats.2.1 8 = .ok (.if_icmp .ge (38), 3) := by decide +kernel
theorem d_MD_beats_11 : decode Y_MD_beats.2.1 11 = .ok (.iload_n 2, 1) := by decide +kernel
theorem d_MD_beats_12 : decode Y_MD_beats.2.1 12 = .ok (.aload_n 0, 1) := by decide +kernel
theorem d_MD_beats_13 : decode Y_MD_beats.2.1 13 = .ok (.bipush (65), 2) := by decide +kernel
theorem d_MD_beats_15 : decode Y_MD_beats.2.1 15 = .ok (.bipush (6), 2) := by decide +kernel
theorem d_MD_beats_17 : decode Y_MD_beats.2.1 17 = .ok (.iconst (4), 1) := by decide +kernel
theorem d_MD_beats_18 : decode Y_MD_beats.2.1 18 = .ok (.iload_n 1, 1) := by decide +kernel
theorem d_MD_beats_19 : decode Y_MD_beats.2.1 19 = .ok (.imul, 1) := by decide +kernel
theorem d_MD_beats_20 : decode Y_MD_beats.2.1 20 = .ok (.iload_n 3, 1) := by decide +kernel
theorem d_MD_beats_21 : decode Y_MD_beats.2.1 21 = .ok (.iadd, 1) := by decide +kernel
theorem d_MD_beats_22 : decode Y_MD_beats.2.1 22 = .ok (.imul, 1) := by decide +kernel
theorem d_MD_beats_23 : decode Y_MD_beats.2.1 23 = .ok (.iadd, 1) := by decide +kernel
theorem d_MD_beats_24 : decode Y_MD_beats.2.1 24 = .ok (.iconst (3), 1) := by decide +kernel
theorem d_MD_beats_25 : decode Y_MD_beats.2.1 25 = .ok (.iadd, 1) := by decide +kernel
theorem d_MD_beats_26 : decode Y_MD_beats.2.1 26 = .ok (.iaload, 1) := by decide +kernel
theorem d_MD_beats_27 : decode Y_MD_beats.2.1 27 = .ok (.aload_n 0, 1) := by decide +kernel
theorem d_MD_beats_28 : decode Y_MD_beats.2.1 28 = .ok (.iconst (3), 1) := by decide +kernel
theorem d_MD_beats_29 : decode Y_MD_beats.2.1 29 = .ok (.iaload, 1) := by decide +kernel
theorem d_MD_beats_30 : decode Y_MD_beats.2.1 30 = .ok (.if_icmp .ne (7), 3) := by decide +kernel
theorem d_MD_beats_33 : decode Y_MD_beats.2.1 33 = .ok (.iconst (1), 1) := by decide +kernel
theorem d_MD_beats_34 : decode Y_MD_beats.2.1 34 = .ok (.goto (4), 3) := by decide +kernel
theorem d_MD_beats_37 : decode Y_MD_beats.2.1 37 = .ok (.iconst (0), 1) := by decide +kernel
theorem d_MD_beats_38 : decode Y_MD_beats.2.1 38 = .ok (.iadd, 1) := by decide +kernel
theorem d_MD_beats_39 : decode Y_MD_beats.2.1 39 = .ok (.istore_n 2, 1) := by decide +kernel
theorem d_MD_beats_40 : decode Y_MD_beats.2.1 40 = .ok (.iinc 3 (1), 3) := by decide +kernel
theorem d_MD_beats_43 : decode Y_MD_beats.2.1 43 = .ok (.goto (-39), 3) := by decide +kernel
theorem d_MD_beats_46 : decode Y_MD_beats.2.1 46 = .ok (.aload_n 0, 1) := by decide +kernel
theorem d_MD_beats_47 : decode Y_MD_beats.2.1 47 = .ok (.bipush (39), 2) := by decide +kernel
theorem d_MD_beats_49 : decode Y_MD_beats.2.1 49 = .ok (.iconst (5), 1) := by decide +kernel
theorem d_MD_beats_50 : decode Y_MD_beats.2.1 50 = .ok (.iload_n 1, 1) := by decide +kernel
theorem d_MD_beats_51 : decode Y_MD_beats.2.1 51 = .ok (.imul, 1) := by decide +kernel
theorem d_MD_beats_52 : decode Y_MD_beats.2.1 52 = .ok (.iadd, 1) := by decide +kernel
theorem d_MD_beats_53 : decode Y_MD_beats.2.1 53 = .ok (.iconst (4), 1) := by decide +kernel
theorem d_MD_beats_54 : decode Y_MD_beats.2.1 54 = .ok (.iadd, 1) := by decide +kernel
theorem d_MD_beats_55 : decode Y_MD_beats.2.1 55 = .ok (.dup2, 1) := by decide +kernel
theorem d_MD_beats_56 : decode Y_MD_beats.2.1 56 = .ok (.iaload, 1) := by decide +kernel
theorem d_MD_beats_57 : decode Y_MD_beats.2.1 57 = .ok (.iload_n 2, 1) := by decide +kernel
theorem d_MD_beats_58 : decode Y_MD_beats.2.1 58 = .ok (.iconst (1), 1) := by decide +kernel
theorem d_MD_beats_59 : decode Y_MD_beats.2.1 59 = .ok (.if_icmp .le (7), 3) := by decide +kernel
theorem d_MD_beats_62 : decode Y_MD_beats.2.1 62 = .ok (.iconst (1), 1) := by decide +kernel
theorem d_MD_beats_63 : decode Y_MD_beats.2.1 63 = .ok (.goto (4), 3) := by decide +kernel
theorem d_MD_beats_66 : decode Y_MD_beats.2.1 66 = .ok (.iconst (0), 1) := by decide +kernel
theorem d_MD_beats_67 : decode Y_MD_beats.2.1 67 = .ok (.iadd, 1) := by decide +kernel
theorem d_MD_beats_68 : decode Y_MD_beats.2.1 68 = .ok (.iastore, 1) := by decide +kernel
theorem d_MD_beats_69 : decode Y_MD_beats.2.1 69 = .ok (.return_, 1) := by decide +kernel
def f_MD_beats (w : zW) (D : zD) (r0 : Nat) (x1 : Int32) : Option (zD) := zjp (zlp (fun (_ : Int32) (_ : Int32) (_ : zD) => none) (fun (j4 : Int32 → Int32 → zD → Option (zD)) (x2 : Int32) (x3 : Int32) (D1 : zD) => zald w D1 0 r0 (0 : Int32) (fun v2 => (if v2 ≤ x3 then zjp (fun (s0 : Nat) (s1 : Int32) (s2 : Int32) (s3 : Int32) (D3 : zD) => zast w D3 0 s0 s1 (s2 + s3) (fun D4 => some D4)) (fun j67 => zlet (((39 : Int32) + ((5 : Int32) * x1)) + (4 : Int32)) (fun v5 => zald w D1 0 r0 v5 (fun v6 => (if x2 ≤ (1 : Int32) then j67 r0 v5 v6 (0 : Int32) D1 else j67 r0 v5 v6 (1 : Int32) D1)))) else zjp (fun (x3 : Int32) (s0 : Int32) (s1 : Int32) (D7 : zD) => zlet (s0 + s1) (fun v8 => zlet (x3 + (1 : Int32)) (fun v9 => j4 v8 v9 D7))) (fun j38 => zald w D1 0 r0 (((65 : Int32) + ((6 : Int32) * (((4 : Int32) * x1) + x3))) + (3 : Int32)) (fun v10 => zald w D1 0 r0 (3 : Int32) (fun v11 => (if v10 = v11 then j38 x3 x2 (1 : Int32) D1 else j38 x3 x2 (0 : Int32) D1))))))) zfuel) (fun j4 => j4 (0 : Int32) (0 : Int32) D)
set_option maxHeartbeats 4000000 in
set_option maxRecDepth 100000 in
theorem c_MD_beats (z : zT) (D : zD) (r0 : Nat) (x1 : Int32) : zM Y_MD_beats 1 0 0 (zqV z) (f_MD_beats z.2 D r0 x1) [.ref r0, .int x1] z D := by
  refine zM_of (plainFor_of_name (by decide +kernel)) rfl (Nat.le_of_ble_eq_true rfl) (fun _ _ _ _ h => nomatch h.1) (fun K => ?_)
  unfold f_MD_beats
  refine z_jp (fun j4 : Int32 → Int32 → zD → Option (zD) => ∀ (x2 : Int32) (x3 : Int32) (D1 : zD), zGO K Y_MD_beats 1 0 0 (zqV z) (j4 x2 x3 D1) 0 0 z D1 4 [(0, .ref r0), (1, .int x1), (2, .int x2), (3, .int x3)] []) (z_lp (fun j4 : Int32 → Int32 → zD → Option (zD) => ∀ (x2 : Int32) (x3 : Int32) (D1 : zD), zGO K Y_MD_beats 1 0 0 (zqV z) (j4 x2 x3 D1) 0 0 z D1 4 [(0, .ref r0), (1, .int x1), (2, .int x2), (3, .int x3)] []) (fun _ _ _ => z_none) (fun j4 h4 x2 x3 D1 => ?_) zfuel) (fun j4 h4 => ?_)
  · refine z_iload_n (pc := 4) d_MD_beats_4 rfl 3 rfl ?_
    refine z_aload_n (pc := 5) d_MD_beats_5 rfl 0 rfl ?_
    refine z_iconst (pc := 6) d_MD_beats_6 ki_0 ?_
    refine z_iaload (pc := 7) d_MD_beats_7 (fun v2 => ?_)
    refine z_icmp_ge (pc := 8) (tgt := 46) d_MD_beats_8 (by decide) ?_ ?_
    · refine z_jp (fun j67 : Nat → Int32 → Int32 → Int32 → zD → Option (zD) => ∀ (s0 : Nat) (s1 : Int32) (s2 : Int32) (s3 : Int32) (D3 : zD), zGO K Y_MD_beats 1 0 0 (zqV z) (j67 s0 s1 s2 s3 D3) 0 0 z D3 67 [] [.int s3, .int s2, .int s1, .ref s0]) (fun s0 s1 s2 s3 D3 => ?_) (fun j67 h67 => ?_)
      · refine z_iadd (pc := 67) d_MD_beats_67 ?_
        refine z_iastore (pc := 68) d_MD_beats_68 (fun D4 => ?_)
        exact z_vret (pc := 69) d_MD_beats_69 rfl
      · refine z_aload_n (pc := 46) d_MD_beats_46 rfl 0 rfl ?_
        refine z_bipush (pc := 47) d_MD_beats_47 kb_39 ?_
        refine z_iconst (pc := 49) d_MD_beats_49 ki_5 ?_
        refine z_iload_n (pc := 50) d_MD_beats_50 rfl 1 rfl ?_
        refine z_imul (pc := 51) d_MD_beats_51 ?_
        refine z_iadd (pc := 52) d_MD_beats_52 ?_
        refine z_iconst (pc := 53) d_MD_beats_53 ki_4 ?_
        refine z_iadd (pc := 54) d_MD_beats_54 ?_
        refine z_leti (fun v5 => ?_)
        refine z_dup2 (pc := 55) d_MD_beats_55 rfl rfl ?_
        refine z_iaload (pc := 56) d_MD_beats_56 (fun v6 => ?_)
        refine z_iload_n (pc := 57) d_MD_beats_57 rfl 2 rfl ?_
        refine z_iconst (pc := 58) d_MD_beats_58 ki_1 ?_
        refine z_icmp_le (pc := 59) (tgt := 66) d_MD_beats_59 (by decide) ?_ ?_
        · refine z_iconst (pc := 66) d_MD_beats_66 ki_0 ?_
          exact z_sub [] rfl (h67 r0 v5 v6 (0 : Int32) D1)
        · refine z_iconst (pc := 62) d_MD_beats_62 ki_1 ?_
          refine z_goto (pc := 63) (tgt := 67) d_MD_beats_63 (by decide) ?_
          exact z_sub [] rfl (h67 r0 v5 v6 (1 : Int32) D1)
    · refine z_jp (fun j38 : Int32 → Int32 → Int32 → zD → Option (zD) => ∀ (x3 : Int32) (s0 : Int32) (s1 : Int32) (D7 : zD), zGO K Y_MD_beats 1 0 0 (zqV z) (j38 x3 s0 s1 D7) 0 0 z D7 38 [(0, .ref r0), (1, .int x1), (3, .int x3)] [.int s1, .int s0]) (fun x3 s0 s1 D7 => ?_) (fun j38 h38 => ?_)
      · refine z_iadd (pc := 38) d_MD_beats_38 ?_
        refine z_leti (fun v8 => ?_)
        refine z_istore_n (pc := 39) d_MD_beats_39 rfl (by decide) (lv' := [(2, .int v8), (0, .ref r0), (1, .int x1), (3, .int x3)]) rfl ?_
        refine z_iincL (pc := 40) d_MD_beats_40 ki_1 3 rfl (by decide) (fun v9 => z_lvc (lv2 := [(3, .int v9), (2, .int v8), (0, .ref r0), (1, .int x1)]) rfl ?_)
        refine z_goto (pc := 43) (tgt := 4) d_MD_beats_43 (by decide) ?_
        exact z_sub [2, 3, 1, 0] rfl (h4 v8 v9 D7)
      · refine z_iload_n (pc := 11) d_MD_beats_11 rfl 2 rfl ?_
        refine z_aload_n (pc := 12) d_MD_beats_12 rfl 0 rfl ?_
        refine z_bipush (pc := 13) d_MD_beats_13 kb_65 ?_
        refine z_bipush (pc := 15) d_MD_beats_15 kb_6 ?_
        refine z_iconst (pc := 17) d_MD_beats_17 ki_4 ?_
        refine z_iload_n (pc := 18) d_MD_beats_18 rfl 1 rfl ?_
        refine z_imul (pc := 19) d_MD_beats_19 ?_
        refine z_iload_n (pc := 20) d_MD_beats_20 rfl 3 rfl ?_
        refine z_iadd (pc := 21) d_MD_beats_21 ?_
        refine z_imul (pc := 22) d_MD_beats_22 ?_
        refine z_iadd (pc := 23) d_MD_beats_23 ?_
        refine z_iconst (pc := 24) d_MD_beats_24 ki_3 ?_
        refine z_iadd (pc := 25) d_MD_beats_25 ?_
        refine z_iaload (pc := 26) d_MD_beats_26 (fun v10 => ?_)
        refine z_aload_n (pc := 27) d_MD_beats_27 rfl 0 rfl ?_
        refine z_iconst (pc := 28) d_MD_beats_28 ki_3 ?_
        refine z_iaload (pc := 29) d_MD_beats_29 (fun v11 => ?_)
        refine z_icmp_ne (pc := 30) (tgt := 37) d_MD_beats_30 (by decide) ?_ ?_
        · refine z_iconst (pc := 33) d_MD_beats_33 ki_1 ?_
          refine z_goto (pc := 34) (tgt := 38) d_MD_beats_34 (by decide) ?_
          exact z_sub [0, 1, 3] rfl (h38 x3 x2 (1 : Int32) D1)
        · refine z_iconst (pc := 37) d_MD_beats_37 ki_0 ?_
          exact z_sub [0, 1, 3] rfl (h38 x3 x2 (0 : Int32) D1)
  · refine z_iconst (pc := 0) d_MD_beats_0 ki_0 ?_
    refine z_istore_n (pc := 1) d_MD_beats_1 rfl (by decide) (lv' := [(2, .int (0 : Int32)), (0, .ref r0), (1, .int x1)]) rfl ?_
    refine z_iconst (pc := 2) d_MD_beats_2 ki_0 ?_
    refine z_istore_n (pc := 3) d_MD_beats_3 rfl (by decide) (lv' := [(3, .int (0 : Int32)), (2, .int (0 : Int32)), (0, .ref r0), (1, .int x1)]) rfl ?_
    exact z_sub [2, 3, 1, 0] rfl (h4 (0 : Int32) (0 : Int32) D)
theorem d_MD_sirenOn_0 : decode Y_MD_sirenOn.2.1 0 = .ok (.bipush (11), 2) := by decide +kernel
theorem d_MD_sirenOn_2 : decode Y_MD_sirenOn.2.1 2 = .ok (.bipush (7), 2) := by decide +kernel
theorem d_MD_sirenOn_4 : decode Y_MD_sirenOn.2.1 4 = .ok (.aload_n 0, 1) := by decide +kernel
theorem d_MD_sirenOn_5 : decode Y_MD_sirenOn.2.1 5 = .ok (.iconst (0), 1) := by decide +kernel
theorem d_MD_sirenOn_6 : decode Y_MD_sirenOn.2.1 6 = .ok (.iaload, 1) := by decide +kernel
theorem d_MD_sirenOn_7 : decode Y_MD_sirenOn.2.1 7 = .ok (.imul, 1) := by decide +kernel
theorem d_MD_sirenOn_8 : decode Y_MD_sirenOn.2.1 8 = .ok (.iadd, 1) := by decide +kernel
theorem d_MD_sirenOn_9 : decode Y_MD_sirenOn.2.1 9 = .ok (.istore 6, 2) := by decide +kernel
theorem d_MD_sirenOn_11 : decode Y_MD_sirenOn.2.1 11 = .ok (.aload_n 0, 1) := by decide +kernel
theorem d_MD_sirenOn_12 : decode Y_MD_sirenOn.2.1 12 = .ok (.iload 6, 2) := by decide +kernel
theorem d_MD_sirenOn_14 : decode Y_MD_sirenOn.2.1 14 = .ok (.iload_n 1, 1) := by decide +kernel
theorem d_MD_sirenOn_15 : decode Y_MD_sirenOn.2.1 15 = .ok (.iastore, 1) := by decide +kernel
theorem d_MD_sirenOn_16 : decode Y_MD_sirenOn.2.1 16 = .ok (.aload_n 0, 1) := by decide +kernel
theorem d_MD_sirenOn_17 : decode Y_MD_sirenOn.2.1 17 = .ok (.iload 6, 2) := by decide +kernel
theorem d_MD_sirenOn_19 : decode Y_MD_sirenOn.2.1 19 = .ok (.iconst (1), 1) := by decide +kernel
theorem d_MD_sirenOn_20 : decode Y_MD_sirenOn.2.1 20 = .ok (.iadd, 1) := by decide +kernel
theorem d_MD_sirenOn_21 : decode Y_MD_sirenOn.2.1 21 = .ok (.iload_n 2, 1) := by decide +kernel
theorem d_MD_sirenOn_22 : decode Y_MD_sirenOn.2.1 22 = .ok (.iastore, 1) := by decide +kernel
theorem d_MD_sirenOn_23 : decode Y_MD_sirenOn.2.1 23 = .ok (.aload_n 0, 1) := by decide +kernel
theorem d_MD_sirenOn_24 : decode Y_MD_sirenOn.2.1 24 = .ok (.iload 6, 2) := by decide +kernel
theorem d_MD_sirenOn_26 : decode Y_MD_sirenOn.2.1 26 = .ok (.iconst (2), 1) := by decide +kernel
theorem d_MD_sirenOn_27 : decode Y_MD_sirenOn.2.1 27 = .ok (.iadd, 1) := by decide +kernel
theorem d_MD_sirenOn_28 : decode Y_MD_sirenOn.2.1 28 = .ok (.iload_n 3, 1) := by decide +kernel
theorem d_MD_sirenOn_29 : decode Y_MD_sirenOn.2.1 29 = .ok (.iastore, 1) := by decide +kernel
theorem d_MD_sirenOn_30 : decode Y_MD_sirenOn.2.1 30 = .ok (.aload_n 0, 1) := by decide +kernel
theorem d_MD_sirenOn_31 : decode Y_MD_sirenOn.2.1 31 = .ok (.iload 6, 2) := by decide +kernel
theorem d_MD_sirenOn_33 : decode Y_MD_sirenOn.2.1 33 = .ok (.iconst (3), 1) := by decide +kernel
theorem d_MD_sirenOn_34 : decode Y_MD_sirenOn.2.1 34 = .ok (.iadd, 1) := by decide +kernel
theorem d_MD_sirenOn_35 : decode Y_MD_sirenOn.2.1 35 = .ok (.iload 4, 2) := by decide +kernel
theorem d_MD_sirenOn_37 : decode Y_MD_sirenOn.2.1 37 = .ok (.iastore, 1) := by decide +kernel
theorem d_MD_sirenOn_38 : decode Y_MD_sirenOn.2.1 38 = .ok (.aload_n 0, 1) := by decide +kernel
theorem d_MD_sirenOn_39 : decode Y_MD_sirenOn.2.1 39 = .ok (.iload 6, 2) := by decide +kernel
theorem d_MD_sirenOn_41 : decode Y_MD_sirenOn.2.1 41 = .ok (.iconst (4), 1) := by decide +kernel
theorem d_MD_sirenOn_42 : decode Y_MD_sirenOn.2.1 42 = .ok (.iadd, 1) := by decide +kernel
theorem d_MD_sirenOn_43 : decode Y_MD_sirenOn.2.1 43 = .ok (.iload 5, 2) := by decide +kernel
theorem d_MD_sirenOn_45 : decode Y_MD_sirenOn.2.1 45 = .ok (.iastore, 1) := by decide +kernel
theorem d_MD_sirenOn_46 : decode Y_MD_sirenOn.2.1 46 = .ok (.aload_n 0, 1) := by decide +kernel
theorem d_MD_sirenOn_47 : decode Y_MD_sirenOn.2.1 47 = .ok (.iload 6, 2) := by decide +kernel
theorem d_MD_sirenOn_49 : decode Y_MD_sirenOn.2.1 49 = .ok (.iconst (5), 1) := by decide +kernel
theorem d_MD_sirenOn_50 : decode Y_MD_sirenOn.2.1 50 = .ok (.iadd, 1) := by decide +kernel
theorem d_MD_sirenOn_51 : decode Y_MD_sirenOn.2.1 51 = .ok (.iconst (1), 1) := by decide +kernel
theorem d_MD_sirenOn_52 : decode Y_MD_sirenOn.2.1 52 = .ok (.iastore, 1) := by decide +kernel
theorem d_MD_sirenOn_53 : decode Y_MD_sirenOn.2.1 53 = .ok (.aload_n 0, 1) := by decide +kernel
theorem d_MD_sirenOn_54 : decode Y_MD_sirenOn.2.1 54 = .ok (.iload 6, 2) := by decide +kernel
theorem d_MD_sirenOn_56 : decode Y_MD_sirenOn.2.1 56 = .ok (.bipush (6), 2) := by decide +kernel
theorem d_MD_sirenOn_58 : decode Y_MD_sirenOn.2.1 58 = .ok (.iadd, 1) := by decide +kernel
theorem d_MD_sirenOn_59 : decode Y_MD_sirenOn.2.1 59 = .ok (.iconst (0), 1) := by decide +kernel
theorem d_MD_sirenOn_60 : decode Y_MD_sirenOn.2.1 60 = .ok (.iastore, 1) := by decide +kernel
theorem d_MD_sirenOn_61 : decode Y_MD_sirenOn.2.1 61 = .ok (.aload_n 0, 1) := by decide +kernel
theorem d_MD_sirenOn_62 : decode Y_MD_sirenOn.2.1 62 = .ok (.iconst (0), 1) := by decide +kernel
theorem d_MD_sirenOn_63 : decode Y_MD_sirenOn.2.1 63 = .ok (.dup2, 1) := by decide +kernel
theorem d_MD_sirenOn_64 : decode Y_MD_sirenOn.2.1 64 = .ok (.iaload, 1) := by decide +kernel
theorem d_MD_sirenOn_65 : decode Y_MD_sirenOn.2.1 65 = .ok (.iconst (1), 1) := by decide +kernel
theorem d_MD_sirenOn_66 : decode Y_MD_sirenOn.2.1 66 = .ok (.iadd, 1) := by decide +kernel
theorem d_MD_sirenOn_67 : decode Y_MD_sirenOn.2.1 67 = .ok (.iastore, 1) := by decide +kernel
theorem d_MD_sirenOn_68 : decode Y_MD_sirenOn.2.1 68 = .ok (.aload_n 0, 1) := by decide +kernel
theorem d_MD_sirenOn_69 : decode Y_MD_sirenOn.2.1 69 = .ok (.iconst (0), 1) := by decide +kernel
theorem d_MD_sirenOn_70 : decode Y_MD_sirenOn.2.1 70 = .ok (.iaload, 1) := by decide +kernel
theorem d_MD_sirenOn_71 : decode Y_MD_sirenOn.2.1 71 = .ok (.iconst (1), 1) := by decide +kernel
theorem d_MD_sirenOn_72 : decode Y_MD_sirenOn.2.1 72 = .ok (.isub, 1) := by decide +kernel
theorem d_MD_sirenOn_73 : decode Y_MD_sirenOn.2.1 73 = .ok (.ireturn, 1) := by decide +kernel
def f_MD_sirenOn (w : zW) (D : zD) (r0 : Nat) (x1 : Int32) (x2 : Int32) (x3 : Int32) (x4 : Int32) (x5 : Int32) : Option (Int32 × zD) := zald w D 0 r0 (0 : Int32) (fun v1 => zlet ((11 : Int32) + ((7 : Int32) * v1)) (fun v2 => zast w D 0 r0 v2 x1 (fun D3 => zast w D3 0 r0 (v2 + (1 : Int32)) x2 (fun D4 => zast w D4 0 r0 (v2 + (2 : Int32)) x3 (fun D5 => zast w D5 0 r0 (v2 + (3 : Int32)) x4 (fun D6 => zast w D6 0 r0 (v2 + (4 : Int32)) x5 (fun D7 => zast w D7 0 r0 (v2 + (5 : Int32)) (1 : Int32) (fun D8 => zast w D8 0 r0 (v2 + (6 : Int32)) (0 : Int32) (fun D9 => zald w D9 0 r0 (0 : Int32) (fun v10 => zast w D9 0 r0 (0 : Int32) (v10 + (1 : Int32)) (fun D11 => zald w D11 0 r0 (0 : Int32) (fun v12 => some (v12 - (1 : Int32), D11)))))))))))))
set_option maxHeartbeats 4000000 in
set_option maxRecDepth 100000 in
theorem c_MD_sirenOn (z : zT) (D : zD) (r0 : Nat) (x1 : Int32) (x2 : Int32) (x3 : Int32) (x4 : Int32) (x5 : Int32) : zM Y_MD_sirenOn 1 0 0 (zqI z) (f_MD_sirenOn z.2 D r0 x1 x2 x3 x4 x5) [.ref r0, .int x1, .int x2, .int x3, .int x4, .int x5] z D := by
  refine zM_of (plainFor_of_name (by decide +kernel)) rfl (Nat.le_of_ble_eq_true rfl) (fun _ _ _ _ h => nomatch h.1) (fun K => ?_)
  unfold f_MD_sirenOn
  refine z_bipush (pc := 0) d_MD_sirenOn_0 kb_11 ?_
  refine z_bipush (pc := 2) d_MD_sirenOn_2 kb_7 ?_
  refine z_aload_n (pc := 4) d_MD_sirenOn_4 rfl 0 rfl ?_
  refine z_iconst (pc := 5) d_MD_sirenOn_5 ki_0 ?_
  refine z_iaload (pc := 6) d_MD_sirenOn_6 (fun v1 => ?_)
  refine z_imul (pc := 7) d_MD_sirenOn_7 ?_
  refine z_iadd (pc := 8) d_MD_sirenOn_8 ?_
  refine z_leti (fun v2 => ?_)
  refine z_istore (pc := 9) d_MD_sirenOn_9 (by decide) (lv' := [(6, .int v2), (0, .ref r0), (1, .int x1), (2, .int x2), (3, .int x3), (4, .int x4), (5, .int x5)]) rfl ?_
  refine z_aload_n (pc := 11) d_MD_sirenOn_11 rfl 1 rfl ?_
  refine z_iload (pc := 12) d_MD_sirenOn_12 0 rfl ?_
  refine z_iload_n (pc := 14) d_MD_sirenOn_14 rfl 2 rfl ?_
  refine z_iastore (pc := 15) d_MD_sirenOn_15 (fun D3 => ?_)
  refine z_aload_n (pc := 16) d_MD_sirenOn_16 rfl 1 rfl ?_
  refine z_iload (pc := 17) d_MD_sirenOn_17 0 rfl ?_
  refine z_iconst (pc := 19) d_MD_sirenOn_19 ki_1 ?_
  refine z_iadd (pc := 20) d_MD_sirenOn_20 ?_
  refine z_iload_n (pc := 21) d_MD_sirenOn_21 rfl 3 rfl ?_
  refine z_iastore (pc := 22) d_MD_sirenOn_22 (fun D4 => ?_)
  refine z_aload_n (pc := 23) d_MD_sirenOn_23 rfl 1 rfl ?_
  refine z_iload (pc := 24) d_MD_sirenOn_24 0 rfl ?_
  refine z_iconst (pc := 26) d_MD_sirenOn_26 ki_2 ?_
  refine z_iadd (pc := 27) d_MD_sirenOn_27 ?_
  refine z_iload_n (pc := 28) d_MD_sirenOn_28 rfl 4 rfl ?_
  refine z_iastore (pc := 29) d_MD_sirenOn_29 (fun D5 => ?_)
  refine z_aload_n (pc := 30) d_MD_sirenOn_30 rfl 1 rfl ?_
  refine z_iload (pc := 31) d_MD_sirenOn_31 0 rfl ?_
  refine z_iconst (pc := 33) d_MD_sirenOn_33 ki_3 ?_
  refine z_iadd (pc := 34) d_MD_sirenOn_34 ?_
  refine z_iload (pc := 35) d_MD_sirenOn_35 5 rfl ?_
  refine z_iastore (pc := 37) d_MD_sirenOn_37 (fun D6 => ?_)
  refine z_aload_n (pc := 38) d_MD_sirenOn_38 rfl 1 rfl ?_
  refine z_iload (pc := 39) d_MD_sirenOn_39 0 rfl ?_
  refine z_iconst (pc := 41) d_MD_sirenOn_41 ki_4 ?_
  refine z_iadd (pc := 42) d_MD_sirenOn_42 ?_
  refine z_iload (pc := 43) d_MD_sirenOn_43 6 rfl ?_
  refine z_iastore (pc := 45) d_MD_sirenOn_45 (fun D7 => ?_)
  refine z_aload_n (pc := 46) d_MD_sirenOn_46 rfl 1 rfl ?_
  refine z_iload (pc := 47) d_MD_sirenOn_47 0 rfl ?_
  refine z_iconst (pc := 49) d_MD_sirenOn_49 ki_5 ?_
  refine z_iadd (pc := 50) d_MD_sirenOn_50 ?_
  refine z_iconst (pc := 51) d_MD_sirenOn_51 ki_1 ?_
  refine z_iastore (pc := 52) d_MD_sirenOn_52 (fun D8 => ?_)
  refine z_aload_n (pc := 53) d_MD_sirenOn_53 rfl 1 rfl ?_
  refine z_iload (pc := 54) d_MD_sirenOn_54 0 rfl ?_
  refine z_bipush (pc := 56) d_MD_sirenOn_56 kb_6 ?_
  refine z_iadd (pc := 58) d_MD_sirenOn_58 ?_
  refine z_iconst (pc := 59) d_MD_sirenOn_59 ki_0 ?_
  refine z_iastore (pc := 60) d_MD_sirenOn_60 (fun D9 => ?_)
  refine z_aload_n (pc := 61) d_MD_sirenOn_61 rfl 1 rfl ?_
  refine z_iconst (pc := 62) d_MD_sirenOn_62 ki_0 ?_
  refine z_dup2 (pc := 63) d_MD_sirenOn_63 rfl rfl ?_
  refine z_iaload (pc := 64) d_MD_sirenOn_64 (fun v10 => ?_)
  refine z_iconst (pc := 65) d_MD_sirenOn_65 ki_1 ?_
  refine z_iadd (pc := 66) d_MD_sirenOn_66 ?_
  refine z_iastore (pc := 67) d_MD_sirenOn_67 (fun D11 => ?_)
  refine z_aload_n (pc := 68) d_MD_sirenOn_68 rfl 1 rfl ?_
  refine z_iconst (pc := 69) d_MD_sirenOn_69 ki_0 ?_
  refine z_iaload (pc := 70) d_MD_sirenOn_70 (fun v12 => ?_)
  refine z_iconst (pc := 71) d_MD_sirenOn_71 ki_1 ?_
  refine z_isub (pc := 72) d_MD_sirenOn_72 ?_
  exact z_iret (pc := 73) d_MD_sirenOn_73 rfl
theorem d_MD_hearerOn_0 : decode Y_MD_hearerOn.2.1 0 = .ok (.bipush (39), 2) := by decide +kernel
theorem d_MD_hearerOn_2 : decode Y_MD_hearerOn.2.1 2 = .ok (.iconst (5), 1) := by decide +kernel
theorem d_MD_hearerOn_3 : decode Y_MD_hearerOn.2.1 3 = .ok (.aload_n 0, 1) := by decide +kernel
theorem d_MD_hearerOn_4 : decode Y_MD_hearerOn.2.1 4 = .ok (.iconst (1), 1) := by decide +kernel
theorem d_MD_hearerOn_5 : decode Y_MD_hearerOn.2.1 5 = .ok (.iaload, 1) := by decide +kernel
theorem d_MD_hearerOn_6 : decode Y_MD_hearerOn.2.1 6 = .ok (.imul, 1) := by decide +kernel
theorem d_MD_hearerOn_7 : decode Y_MD_hearerOn.2.1 7 = .ok (.iadd, 1) := by decide +kernel
theorem d_MD_hearerOn_8 : decode Y_MD_hearerOn.2.1 8 = .ok (.istore 5, 2) := by decide +kernel
theorem d_MD_hearerOn_10 : decode Y_MD_hearerOn.2.1 10 = .ok (.aload_n 0, 1) := by decide +kernel
theorem d_MD_hearerOn_11 : decode Y_MD_hearerOn.2.1 11 = .ok (.iload 5, 2) := by decide +kernel
theorem d_MD_hearerOn_13 : decode Y_MD_hearerOn.2.1 13 = .ok (.iload_n 1, 1) := by decide +kernel
theorem d_MD_hearerOn_14 : decode Y_MD_hearerOn.2.1 14 = .ok (.iastore, 1) := by decide +kernel
theorem d_MD_hearerOn_15 : decode Y_MD_hearerOn.2.1 15 = .ok (.aload_n 0, 1) := by decide +kernel
theorem d_MD_hearerOn_16 : decode Y_MD_hearerOn.2.1 16 = .ok (.iload 5, 2) := by decide +kernel
theorem d_MD_hearerOn_18 : decode Y_MD_hearerOn.2.1 18 = .ok (.iconst (1), 1) := by decide +kernel
theorem d_MD_hearerOn_19 : decode Y_MD_hearerOn.2.1 19 = .ok (.iadd, 1) := by decide +kernel
theorem d_MD_hearerOn_20 : decode Y_MD_hearerOn.2.1 20 = .ok (.iload_n 2, 1) := by decide +kernel
theorem d_MD_hearerOn_21 : decode Y_MD_hearerOn.2.1 21 = .ok (.iastore, 1) := by decide +kernel
theorem d_MD_hearerOn_22 : decode Y_MD_hearerOn.2.1 22 = .ok (.aload_n 0, 1) := by decide +kernel
theorem d_MD_hearerOn_23 : decode Y_MD_hearerOn.2.1 23 = .ok (.iload 5, 2) := by decide +kernel
theorem d_MD_hearerOn_25 : decode Y_MD_hearerOn.2.1 25 = .ok (.iconst (2), 1) := by decide +kernel
theorem d_MD_hearerOn_26 : decode Y_MD_hearerOn.2.1 26 = .ok (.iadd, 1) := by decide +kernel
theorem d_MD_hearerOn_27 : decode Y_MD_hearerOn.2.1 27 = .ok (.iload_n 3, 1) := by decide +kernel
theorem d_MD_hearerOn_28 : decode Y_MD_hearerOn.2.1 28 = .ok (.iastore, 1) := by decide +kernel
theorem d_MD_hearerOn_29 : decode Y_MD_hearerOn.2.1 29 = .ok (.aload_n 0, 1) := by decide +kernel
theorem d_MD_hearerOn_30 : decode Y_MD_hearerOn.2.1 30 = .ok (.iload 5, 2) := by decide +kernel
theorem d_MD_hearerOn_32 : decode Y_MD_hearerOn.2.1 32 = .ok (.iconst (3), 1) := by decide +kernel
theorem d_MD_hearerOn_33 : decode Y_MD_hearerOn.2.1 33 = .ok (.iadd, 1) := by decide +kernel
theorem d_MD_hearerOn_34 : decode Y_MD_hearerOn.2.1 34 = .ok (.iload 4, 2) := by decide +kernel
theorem d_MD_hearerOn_36 : decode Y_MD_hearerOn.2.1 36 = .ok (.iastore, 1) := by decide +kernel
theorem d_MD_hearerOn_37 : decode Y_MD_hearerOn.2.1 37 = .ok (.aload_n 0, 1) := by decide +kernel
theorem d_MD_hearerOn_38 : decode Y_MD_hearerOn.2.1 38 = .ok (.iload 5, 2) := by decide +kernel
theorem d_MD_hearerOn_40 : decode Y_MD_hearerOn.2.1 40 = .ok (.iconst (4), 1) := by decide +kernel
theorem d_MD_hearerOn_41 : decode Y_MD_hearerOn.2.1 41 = .ok (.iadd, 1) := by decide +kernel
theorem d_MD_hearerOn_42 : decode Y_MD_hearerOn.2.1 42 = .ok (.iconst (0), 1) := by decide +kernel
theorem d_MD_hearerOn_43 : decode Y_MD_hearerOn.2.1 43 = .ok (.iastore, 1) := by decide +kernel
theorem d_MD_hearerOn_44 : decode Y_MD_hearerOn.2.1 44 = .ok (.aload_n 0, 1) := by decide +kernel
theorem d_MD_hearerOn_45 : decode Y_MD_hearerOn.2.1 45 = .ok (.iconst (1), 1) := by decide +kernel
theorem d_MD_hearerOn_46 : decode Y_MD_hearerOn.2.1 46 = .ok (.dup2, 1) := by decide +kernel
theorem d_MD_hearerOn_47 : decode Y_MD_hearerOn.2.1 47 = .ok (.iaload, 1) := by decide +kernel
theorem d_MD_hearerOn_48 : decode Y_MD_hearerOn.2.1 48 = .ok (.iconst (1), 1) := by decide +kernel
theorem d_MD_hearerOn_49 : decode Y_MD_hearerOn.2.1 49 = .ok (.iadd, 1) := by decide +kernel
theorem d_MD_hearerOn_50 : decode Y_MD_hearerOn.2.1 50 = .ok (.iastore, 1) := by decide +kernel
theorem d_MD_hearerOn_51 : decode Y_MD_hearerOn.2.1 51 = .ok (.aload_n 0, 1) := by decide +kernel
theorem d_MD_hearerOn_52 : decode Y_MD_hearerOn.2.1 52 = .ok (.iconst (1), 1) := by decide +kernel
theorem d_MD_hearerOn_53 : decode Y_MD_hearerOn.2.1 53 = .ok (.iaload, 1) := by decide +kernel
theorem d_MD_hearerOn_54 : decode Y_MD_hearerOn.2.1 54 = .ok (.iconst (1), 1) := by decide +kernel
theorem d_MD_hearerOn_55 : decode Y_MD_hearerOn.2.1 55 = .ok (.isub, 1) := by decide +kernel
theorem d_MD_hearerOn_56 : decode Y_MD_hearerOn.2.1 56 = .ok (.ireturn, 1) := by decide +kernel
def f_MD_hearerOn (w : zW) (D : zD) (r0 : Nat) (x1 : Int32) (x2 : Int32) (x3 : Int32) (x4 : Int32) : Option (Int32 × zD) := zald w D 0 r0 (1 : Int32) (fun v1 => zlet ((39 : Int32) + ((5 : Int32) * v1)) (fun v2 => zast w D 0 r0 v2 x1 (fun D3 => zast w D3 0 r0 (v2 + (1 : Int32)) x2 (fun D4 => zast w D4 0 r0 (v2 + (2 : Int32)) x3 (fun D5 => zast w D5 0 r0 (v2 + (3 : Int32)) x4 (fun D6 => zast w D6 0 r0 (v2 + (4 : Int32)) (0 : Int32) (fun D7 => zald w D7 0 r0 (1 : Int32) (fun v8 => zast w D7 0 r0 (1 : Int32) (v8 + (1 : Int32)) (fun D9 => zald w D9 0 r0 (1 : Int32) (fun v10 => some (v10 - (1 : Int32), D9)))))))))))
set_option maxHeartbeats 4000000 in
set_option maxRecDepth 100000 in
theorem c_MD_hearerOn (z : zT) (D : zD) (r0 : Nat) (x1 : Int32) (x2 : Int32) (x3 : Int32) (x4 : Int32) : zM Y_MD_hearerOn 1 0 0 (zqI z) (f_MD_hearerOn z.2 D r0 x1 x2 x3 x4) [.ref r0, .int x1, .int x2, .int x3, .int x4] z D := by
  refine zM_of (plainFor_of_name (by decide +kernel)) rfl (Nat.le_of_ble_eq_true rfl) (fun _ _ _ _ h => nomatch h.1) (fun K => ?_)
  unfold f_MD_hearerOn
  refine z_bipush (pc := 0) d_MD_hearerOn_0 kb_39 ?_
  refine z_iconst (pc := 2) d_MD_hearerOn_2 ki_5 ?_
  refine z_aload_n (pc := 3) d_MD_hearerOn_3 rfl 0 rfl ?_
  refine z_iconst (pc := 4) d_MD_hearerOn_4 ki_1 ?_
  refine z_iaload (pc := 5) d_MD_hearerOn_5 (fun v1 => ?_)
  refine z_imul (pc := 6) d_MD_hearerOn_6 ?_
  refine z_iadd (pc := 7) d_MD_hearerOn_7 ?_
  refine z_leti (fun v2 => ?_)
  refine z_istore (pc := 8) d_MD_hearerOn_8 (by decide) (lv' := [(5, .int v2), (0, .ref r0), (1, .int x1), (2, .int x2), (3, .int x3), (4, .int x4)]) rfl ?_
  refine z_aload_n (pc := 10) d_MD_hearerOn_10 rfl 1 rfl ?_
  refine z_iload (pc := 11) d_MD_hearerOn_11 0 rfl ?_
  refine z_iload_n (pc := 13) d_MD_hearerOn_13 rfl 2 rfl ?_
  refine z_iastore (pc := 14) d_MD_hearerOn_14 (fun D3 => ?_)
  refine z_aload_n (pc := 15) d_MD_hearerOn_15 rfl 1 rfl ?_
  refine z_iload (pc := 16) d_MD_hearerOn_16 0 rfl ?_
  refine z_iconst (pc := 18) d_MD_hearerOn_18 ki_1 ?_
  refine z_iadd (pc := 19) d_MD_hearerOn_19 ?_
  refine z_iload_n (pc := 20) d_MD_hearerOn_20 rfl 3 rfl ?_
  refine z_iastore (pc := 21) d_MD_hearerOn_21 (fun D4 => ?_)
  refine z_aload_n (pc := 22) d_MD_hearerOn_22 rfl 1 rfl ?_
  refine z_iload (pc := 23) d_MD_hearerOn_23 0 rfl ?_
  refine z_iconst (pc := 25) d_MD_hearerOn_25 ki_2 ?_
  refine z_iadd (pc := 26) d_MD_hearerOn_26 ?_
  refine z_iload_n (pc := 27) d_MD_hearerOn_27 rfl 4 rfl ?_
  refine z_iastore (pc := 28) d_MD_hearerOn_28 (fun D5 => ?_)
  refine z_aload_n (pc := 29) d_MD_hearerOn_29 rfl 1 rfl ?_
  refine z_iload (pc := 30) d_MD_hearerOn_30 0 rfl ?_
  refine z_iconst (pc := 32) d_MD_hearerOn_32 ki_3 ?_
  refine z_iadd (pc := 33) d_MD_hearerOn_33 ?_
  refine z_iload (pc := 34) d_MD_hearerOn_34 5 rfl ?_
  refine z_iastore (pc := 36) d_MD_hearerOn_36 (fun D6 => ?_)
  refine z_aload_n (pc := 37) d_MD_hearerOn_37 rfl 1 rfl ?_
  refine z_iload (pc := 38) d_MD_hearerOn_38 0 rfl ?_
  refine z_iconst (pc := 40) d_MD_hearerOn_40 ki_4 ?_
  refine z_iadd (pc := 41) d_MD_hearerOn_41 ?_
  refine z_iconst (pc := 42) d_MD_hearerOn_42 ki_0 ?_
  refine z_iastore (pc := 43) d_MD_hearerOn_43 (fun D7 => ?_)
  refine z_aload_n (pc := 44) d_MD_hearerOn_44 rfl 1 rfl ?_
  refine z_iconst (pc := 45) d_MD_hearerOn_45 ki_1 ?_
  refine z_dup2 (pc := 46) d_MD_hearerOn_46 rfl rfl ?_
  refine z_iaload (pc := 47) d_MD_hearerOn_47 (fun v8 => ?_)
  refine z_iconst (pc := 48) d_MD_hearerOn_48 ki_1 ?_
  refine z_iadd (pc := 49) d_MD_hearerOn_49 ?_
  refine z_iastore (pc := 50) d_MD_hearerOn_50 (fun D9 => ?_)
  refine z_aload_n (pc := 51) d_MD_hearerOn_51 rfl 1 rfl ?_
  refine z_iconst (pc := 52) d_MD_hearerOn_52 ki_1 ?_
  refine z_iaload (pc := 53) d_MD_hearerOn_53 (fun v10 => ?_)
  refine z_iconst (pc := 54) d_MD_hearerOn_54 ki_1 ?_
  refine z_isub (pc := 55) d_MD_hearerOn_55 ?_
  exact z_iret (pc := 56) d_MD_hearerOn_56 rfl
theorem d_MD_wallOn_0 : decode Y_MD_wallOn.2.1 0 = .ok (.aload_n 0, 1) := by decide +kernel
theorem d_MD_wallOn_1 : decode Y_MD_wallOn.2.1 1 = .ok (.bipush (59), 2) := by decide +kernel
theorem d_MD_wallOn_3 : decode Y_MD_wallOn.2.1 3 = .ok (.iconst (2), 1) := by decide +kernel
theorem d_MD_wallOn_4 : decode Y_MD_wallOn.2.1 4 = .ok (.aload_n 0, 1) := by decide +kernel
theorem d_MD_wallOn_5 : decode Y_MD_wallOn.2.1 5 = .ok (.iconst (2), 1) := by decide +kernel
theorem d_MD_wallOn_6 : decode Y_MD_wallOn.2.1 6 = .ok (.iaload, 1) := by decide +kernel
theorem d_MD_wallOn_7 : decode Y_MD_wallOn.2.1 7 = .ok (.imul, 1) := by decide +kernel
theorem d_MD_wallOn_8 : decode Y_MD_wallOn.2.1 8 = .ok (.iadd, 1) := by decide +kernel
theorem d_MD_wallOn_9 : decode Y_MD_wallOn.2.1 9 = .ok (.iload_n 1, 1) := by decide +kernel
theorem d_MD_wallOn_10 : decode Y_MD_wallOn.2.1 10 = .ok (.ifCond .eq (7), 3) := by decide +kernel
theorem d_MD_wallOn_13 : decode Y_MD_wallOn.2.1 13 = .ok (.iconst (1), 1) := by decide +kernel
theorem d_MD_wallOn_14 : decode Y_MD_wallOn.2.1 14 = .ok (.goto (4), 3) := by decide +kernel
theorem d_MD_wallOn_17 : decode Y_MD_wallOn.2.1 17 = .ok (.iconst (0), 1) := by decide +kernel
theorem d_MD_wallOn_18 : decode Y_MD_wallOn.2.1 18 = .ok (.iastore, 1) := by decide +kernel
theorem d_MD_wallOn_19 : decode Y_MD_wallOn.2.1 19 = .ok (.aload_n 0, 1) := by decide +kernel
theorem d_MD_wallOn_20 : decode Y_MD_wallOn.2.1 20 = .ok (.bipush (59), 2) := by decide +kernel
theorem d_MD_wallOn_22 : decode Y_MD_wallOn.2.1 22 = .ok (.iconst (2), 1) := by decide +kernel
theorem d_MD_wallOn_23 : decode Y_MD_wallOn.2.1 23 = .ok (.aload_n 0, 1) := by decide +kernel
theorem d_MD_wallOn_24 : decode Y_MD_wallOn.2.1 24 = .ok (.iconst (2), 1) := by decide +kernel
theorem d_MD_wallOn_25 : decode Y_MD_wallOn.2.1 25 = .ok (.iaload, 1) := by decide +kernel
theorem d_MD_wallOn_26 : decode Y_MD_wallOn.2.1 26 = .ok (.imul, 1) := by decide +kernel
theorem d_MD_wallOn_27 : decode Y_MD_wallOn.2.1 27 = .ok (.iadd, 1) := by decide +kernel
theorem d_MD_wallOn_28 : decode Y_MD_wallOn.2.1 28 = .ok (.iconst (1), 1) := by decide +kernel
theorem d_MD_wallOn_29 : decode Y_MD_wallOn.2.1 29 = .ok (.iadd, 1) := by decide +kernel
theorem d_MD_wallOn_30 : decode Y_MD_wallOn.2.1 30 = .ok (.iload_n 2, 1) := by decide +kernel
theorem d_MD_wallOn_31 : decode Y_MD_wallOn.2.1 31 = .ok (.iastore, 1) := by decide +kernel
theorem d_MD_wallOn_32 : decode Y_MD_wallOn.2.1 32 = .ok (.aload_n 0, 1) := by decide +kernel
theorem d_MD_wallOn_33 : decode Y_MD_wallOn.2.1 33 = .ok (.iconst (2), 1) := by decide +kernel
theorem d_MD_wallOn_34 : decode Y_MD_wallOn.2.1 34 = .ok (.dup2, 1) := by decide +kernel
theorem d_MD_wallOn_35 : decode Y_MD_wallOn.2.1 35 = .ok (.iaload, 1) := by decide +kernel
theorem d_MD_wallOn_36 : decode Y_MD_wallOn.2.1 36 = .ok (.iconst (1), 1) := by decide +kernel
theorem d_MD_wallOn_37 : decode Y_MD_wallOn.2.1 37 = .ok (.iadd, 1) := by decide +kernel
theorem d_MD_wallOn_38 : decode Y_MD_wallOn.2.1 38 = .ok (.iastore, 1) := by decide +kernel
theorem d_MD_wallOn_39 : decode Y_MD_wallOn.2.1 39 = .ok (.aload_n 0, 1) := by decide +kernel
theorem d_MD_wallOn_40 : decode Y_MD_wallOn.2.1 40 = .ok (.iconst (2), 1) := by decide +kernel
theorem d_MD_wallOn_41 : decode Y_MD_wallOn.2.1 41 = .ok (.iaload, 1) := by decide +kernel
theorem d_MD_wallOn_42 : decode Y_MD_wallOn.2.1 42 = .ok (.iconst (1), 1) := by decide +kernel
theorem d_MD_wallOn_43 : decode Y_MD_wallOn.2.1 43 = .ok (.isub, 1) := by decide +kernel
theorem d_MD_wallOn_44 : decode Y_MD_wallOn.2.1 44 = .ok (.ireturn, 1) := by decide +kernel
def f_MD_wallOn (w : zW) (D : zD) (r0 : Nat) (x1 : Int32) (x2 : Int32) : Option (Int32 × zD) := zjp (fun (s0 : Nat) (s1 : Int32) (s2 : Int32) (D1 : zD) => zast w D1 0 s0 s1 s2 (fun D2 => zald w D2 0 r0 (2 : Int32) (fun v3 => zast w D2 0 r0 (((59 : Int32) + ((2 : Int32) * v3)) + (1 : Int32)) x2 (fun D4 => zald w D4 0 r0 (2 : Int32) (fun v5 => zast w D4 0 r0 (2 : Int32) (v5 + (1 : Int32)) (fun D6 => zald w D6 0 r0 (2 : Int32) (fun v7 => some (v7 - (1 : Int32), D6)))))))) (fun j18 => zald w D 0 r0 (2 : Int32) (fun v8 => (if x1 = 0 then j18 r0 ((59 : Int32) + ((2 : Int32) * v8)) (0 : Int32) D else j18 r0 ((59 : Int32) + ((2 : Int32) * v8)) (1 : Int32) D)))
set_option maxHeartbeats 4000000 in
set_option maxRecDepth 100000 in
theorem c_MD_wallOn (z : zT) (D : zD) (r0 : Nat) (x1 : Int32) (x2 : Int32) : zM Y_MD_wallOn 1 0 0 (zqI z) (f_MD_wallOn z.2 D r0 x1 x2) [.ref r0, .int x1, .int x2] z D := by
  refine zM_of (plainFor_of_name (by decide +kernel)) rfl (Nat.le_of_ble_eq_true rfl) (fun _ _ _ _ h => nomatch h.1) (fun K => ?_)
  unfold f_MD_wallOn
  refine z_jp (fun j18 : Nat → Int32 → Int32 → zD → Option (Int32 × zD) => ∀ (s0 : Nat) (s1 : Int32) (s2 : Int32) (D1 : zD), zGO K Y_MD_wallOn 1 0 0 (zqI z) (j18 s0 s1 s2 D1) 0 0 z D1 18 [(0, .ref r0), (2, .int x2)] [.int s2, .int s1, .ref s0]) (fun s0 s1 s2 D1 => ?_) (fun j18 h18 => ?_)
  · refine z_iastore (pc := 18) d_MD_wallOn_18 (fun D2 => ?_)
    refine z_aload_n (pc := 19) d_MD_wallOn_19 rfl 0 rfl ?_
    refine z_bipush (pc := 20) d_MD_wallOn_20 kb_59 ?_
    refine z_iconst (pc := 22) d_MD_wallOn_22 ki_2 ?_
    refine z_aload_n (pc := 23) d_MD_wallOn_23 rfl 0 rfl ?_
    refine z_iconst (pc := 24) d_MD_wallOn_24 ki_2 ?_
    refine z_iaload (pc := 25) d_MD_wallOn_25 (fun v3 => ?_)
    refine z_imul (pc := 26) d_MD_wallOn_26 ?_
    refine z_iadd (pc := 27) d_MD_wallOn_27 ?_
    refine z_iconst (pc := 28) d_MD_wallOn_28 ki_1 ?_
    refine z_iadd (pc := 29) d_MD_wallOn_29 ?_
    refine z_iload_n (pc := 30) d_MD_wallOn_30 rfl 1 rfl ?_
    refine z_iastore (pc := 31) d_MD_wallOn_31 (fun D4 => ?_)
    refine z_aload_n (pc := 32) d_MD_wallOn_32 rfl 0 rfl ?_
    refine z_iconst (pc := 33) d_MD_wallOn_33 ki_2 ?_
    refine z_dup2 (pc := 34) d_MD_wallOn_34 rfl rfl ?_
    refine z_iaload (pc := 35) d_MD_wallOn_35 (fun v5 => ?_)
    refine z_iconst (pc := 36) d_MD_wallOn_36 ki_1 ?_
    refine z_iadd (pc := 37) d_MD_wallOn_37 ?_
    refine z_iastore (pc := 38) d_MD_wallOn_38 (fun D6 => ?_)
    refine z_aload_n (pc := 39) d_MD_wallOn_39 rfl 0 rfl ?_
    refine z_iconst (pc := 40) d_MD_wallOn_40 ki_2 ?_
    refine z_iaload (pc := 41) d_MD_wallOn_41 (fun v7 => ?_)
    refine z_iconst (pc := 42) d_MD_wallOn_42 ki_1 ?_
    refine z_isub (pc := 43) d_MD_wallOn_43 ?_
    exact z_iret (pc := 44) d_MD_wallOn_44 rfl
  · refine z_aload_n (pc := 0) d_MD_wallOn_0 rfl 0 rfl ?_
    refine z_bipush (pc := 1) d_MD_wallOn_1 kb_59 ?_
    refine z_iconst (pc := 3) d_MD_wallOn_3 ki_2 ?_
    refine z_aload_n (pc := 4) d_MD_wallOn_4 rfl 0 rfl ?_
    refine z_iconst (pc := 5) d_MD_wallOn_5 ki_2 ?_
    refine z_iaload (pc := 6) d_MD_wallOn_6 (fun v8 => ?_)
    refine z_imul (pc := 7) d_MD_wallOn_7 ?_
    refine z_iadd (pc := 8) d_MD_wallOn_8 ?_
    refine z_iload_n (pc := 9) d_MD_wallOn_9 rfl 1 rfl ?_
    refine z_if_eq (pc := 10) (tgt := 17) d_MD_wallOn_10 (by decide) ?_ ?_
    · refine z_iconst (pc := 17) d_MD_wallOn_17 ki_0 ?_
      exact z_sub [0, 2] rfl (h18 r0 ((59 : Int32) + ((2 : Int32) * v8)) (0 : Int32) D)
    · refine z_iconst (pc := 13) d_MD_wallOn_13 ki_1 ?_
      refine z_goto (pc := 14) (tgt := 18) d_MD_wallOn_14 (by decide) ?_
      exact z_sub [0, 2] rfl (h18 r0 ((59 : Int32) + ((2 : Int32) * v8)) (1 : Int32) D)
theorem d_MD_change_0 : decode Y_MD_change.2.1 0 = .ok (.aload_n 0, 1) := by decide +kernel
theorem d_MD_change_1 : decode Y_MD_change.2.1 1 = .ok (.bipush (9), 2) := by decide +kernel
theorem d_MD_change_3 : decode Y_MD_change.2.1 3 = .ok (.iload_n 1, 1) := by decide +kernel
theorem d_MD_change_4 : decode Y_MD_change.2.1 4 = .ok (.iadd, 1) := by decide +kernel
theorem d_MD_change_5 : decode Y_MD_change.2.1 5 = .ok (.iaload, 1) := by decide +kernel
theorem d_MD_change_6 : decode Y_MD_change.2.1 6 = .ok (.istore_n 3, 1) := by decide +kernel
theorem d_MD_change_7 : decode Y_MD_change.2.1 7 = .ok (.aload_n 0, 1) := by decide +kernel
theorem d_MD_change_8 : decode Y_MD_change.2.1 8 = .ok (.bipush (9), 2) := by decide +kernel
theorem d_MD_change_10 : decode Y_MD_change.2.1 10 = .ok (.iload_n 1, 1) := by decide +kernel
theorem d_MD_change_11 : decode Y_MD_change.2.1 11 = .ok (.iadd, 1) := by decide +kernel
theorem d_MD_change_12 : decode Y_MD_change.2.1 12 = .ok (.iload_n 2, 1) := by decide +kernel
theorem d_MD_change_13 : decode Y_MD_change.2.1 13 = .ok (.iastore, 1) := by decide +kernel
theorem d_MD_change_14 : decode Y_MD_change.2.1 14 = .ok (.iload_n 3, 1) := by decide +kernel
theorem d_MD_change_15 : decode Y_MD_change.2.1 15 = .ok (.ireturn, 1) := by decide +kernel
def f_MD_change (w : zW) (D : zD) (r0 : Nat) (x1 : Int32) (x2 : Int32) : Option (Int32 × zD) := zald w D 0 r0 ((9 : Int32) + x1) (fun v1 => zast w D 0 r0 ((9 : Int32) + x1) x2 (fun D2 => some (v1, D2)))
set_option maxHeartbeats 4000000 in
set_option maxRecDepth 100000 in
theorem c_MD_change (z : zT) (D : zD) (r0 : Nat) (x1 : Int32) (x2 : Int32) : zM Y_MD_change 1 0 0 (zqI z) (f_MD_change z.2 D r0 x1 x2) [.ref r0, .int x1, .int x2] z D := by
  refine zM_of (plainFor_of_name (by decide +kernel)) rfl (Nat.le_of_ble_eq_true rfl) (fun _ _ _ _ h => nomatch h.1) (fun K => ?_)
  unfold f_MD_change
  refine z_aload_n (pc := 0) d_MD_change_0 rfl 0 rfl ?_
  refine z_bipush (pc := 1) d_MD_change_1 kb_9 ?_
  refine z_iload_n (pc := 3) d_MD_change_3 rfl 1 rfl ?_
  refine z_iadd (pc := 4) d_MD_change_4 ?_
  refine z_iaload (pc := 5) d_MD_change_5 (fun v1 => ?_)
  refine z_istore_n (pc := 6) d_MD_change_6 rfl (by decide) (lv' := [(3, .int v1), (0, .ref r0), (1, .int x1), (2, .int x2)]) rfl ?_
  refine z_aload_n (pc := 7) d_MD_change_7 rfl 1 rfl ?_
  refine z_bipush (pc := 8) d_MD_change_8 kb_9 ?_
  refine z_iload_n (pc := 10) d_MD_change_10 rfl 2 rfl ?_
  refine z_iadd (pc := 11) d_MD_change_11 ?_
  refine z_iload_n (pc := 12) d_MD_change_12 rfl 3 rfl ?_
  refine z_iastore (pc := 13) d_MD_change_13 (fun D2 => ?_)
  refine z_iload_n (pc := 14) d_MD_change_14 rfl 0 rfl ?_
  exact z_iret (pc := 15) d_MD_change_15 rfl
theorem d_MD_clearText_0 : decode Y_MD_clearText.2.1 0 = .ok (.aload_n 0, 1) := by decide +kernel
theorem d_MD_clearText_1 : decode Y_MD_clearText.2.1 1 = .ok (.iconst (0), 1) := by decide +kernel
theorem d_MD_clearText_2 : decode Y_MD_clearText.2.1 2 = .ok (.putfield 33, 3) := by decide +kernel
theorem d_MD_clearText_5 : decode Y_MD_clearText.2.1 5 = .ok (.aload_n 0, 1) := by decide +kernel
theorem d_MD_clearText_6 : decode Y_MD_clearText.2.1 6 = .ok (.getfield 124, 3) := by decide +kernel
theorem d_MD_clearText_9 : decode Y_MD_clearText.2.1 9 = .ok (.istore_n 1, 1) := by decide +kernel
theorem d_MD_clearText_10 : decode Y_MD_clearText.2.1 10 = .ok (.aload_n 0, 1) := by decide +kernel
theorem d_MD_clearText_11 : decode Y_MD_clearText.2.1 11 = .ok (.iconst (0), 1) := by decide +kernel
theorem d_MD_clearText_12 : decode Y_MD_clearText.2.1 12 = .ok (.putfield 124, 3) := by decide +kernel
theorem d_MD_clearText_15 : decode Y_MD_clearText.2.1 15 = .ok (.iload_n 1, 1) := by decide +kernel
theorem d_MD_clearText_16 : decode Y_MD_clearText.2.1 16 = .ok (.ireturn, 1) := by decide +kernel
def f_MD_clearText (w : zW) (D : zD) (a : Nat) : Option (Int32 × zD) := zput w D 8 0 a (0 : Int32) (fun D1 => zfld w D1 8 2 a (fun v2 => zput w D1 8 2 a (0 : Int32) (fun D3 => some (v2, D3))))
set_option maxHeartbeats 4000000 in
set_option maxRecDepth 100000 in
theorem c_MD_clearText (z : zT) (D : zD) (a : Nat) : zM Y_MD_clearText 1 0 0 (zqI z) (f_MD_clearText z.2 D a) [.ref a] z D := by
  refine zM_of (plainFor_of_name (by decide +kernel)) rfl (Nat.le_of_ble_eq_true rfl) (fun _ _ _ _ h => nomatch h.1) (fun K => ?_)
  unfold f_MD_clearText
  refine z_aload_n (pc := 0) d_MD_clearText_0 rfl 0 rfl ?_
  refine z_iconst (pc := 1) d_MD_clearText_1 ki_0 ?_
  refine z_putI (pc := 2) fl_MD_33 d_MD_clearText_2 (fun D1 => ?_)
  refine z_aload_n (pc := 5) d_MD_clearText_5 rfl 0 rfl ?_
  refine z_getI (pc := 6) fl_MD_124 d_MD_clearText_6 (fun v2 => ?_)
  refine z_istore_n (pc := 9) d_MD_clearText_9 rfl (by decide) (lv' := [(1, .int v2), (0, .ref a)]) rfl ?_
  refine z_aload_n (pc := 10) d_MD_clearText_10 rfl 1 rfl ?_
  refine z_iconst (pc := 11) d_MD_clearText_11 ki_0 ?_
  refine z_putI (pc := 12) fl_MD_124 d_MD_clearText_12 (fun D3 => ?_)
  refine z_iload_n (pc := 15) d_MD_clearText_15 rfl 0 rfl ?_
  exact z_iret (pc := 16) d_MD_clearText_16 rfl
theorem d_MD_either_0 : decode Y_MD_either.2.1 0 = .ok (.iload_n 1, 1) := by decide +kernel
theorem d_MD_either_1 : decode Y_MD_either.2.1 1 = .ok (.iconst (-1), 1) := by decide +kernel
theorem d_MD_either_2 : decode Y_MD_either.2.1 2 = .ok (.if_icmp .eq (44), 3) := by decide +kernel
theorem d_MD_either_5 : decode Y_MD_either.2.1 5 = .ok (.aload_n 0, 1) := by decide +kernel
theorem d_MD_either_6 : decode Y_MD_either.2.1 6 = .ok (.getfield 131, 3) := by decide +kernel
theorem d_MD_either_9 : decode Y_MD_either.2.1 9 = .ok (.aload_n 0, 1) := by decide +kernel
theorem d_MD_either_10 : decode Y_MD_either.2.1 10 = .ok (.getfield 124, 3) := by decide +kernel
theorem d_MD_either_13 : decode Y_MD_either.2.1 13 = .ok (.if_icmp .ge (33), 3) := by decide +kernel
theorem d_MD_either_16 : decode Y_MD_either.2.1 16 = .ok (.aload_n 0, 1) := by decide +kernel
theorem d_MD_either_17 : decode Y_MD_either.2.1 17 = .ok (.getfield 7, 3) := by decide +kernel
theorem d_MD_either_20 : decode Y_MD_either.2.1 20 = .ok (.aload_n 0, 1) := by decide +kernel
theorem d_MD_either_21 : decode Y_MD_either.2.1 21 = .ok (.getfield 131, 3) := by decide +kernel
theorem d_MD_either_24 : decode Y_MD_either.2.1 24 = .ok (.iaload, 1) := by decide +kernel
theorem d_MD_either_25 : decode Y_MD_either.2.1 25 = .ok (.iload_n 2, 1) := by decide +kernel
theorem d_MD_either_26 : decode Y_MD_either.2.1 26 = .ok (.if_icmp .eq (16), 3) := by decide +kernel
theorem d_MD_either_29 : decode Y_MD_either.2.1 29 = .ok (.aload_n 0, 1) := by decide +kernel
theorem d_MD_either_30 : decode Y_MD_either.2.1 30 = .ok (.getfield 7, 3) := by decide +kernel
theorem d_MD_either_33 : decode Y_MD_either.2.1 33 = .ok (.aload_n 0, 1) := by decide +kernel
theorem d_MD_either_34 : decode Y_MD_either.2.1 34 = .ok (.getfield 131, 3) := by decide +kernel
theorem d_MD_either_37 : decode Y_MD_either.2.1 37 = .ok (.iaload, 1) := by decide +kernel
theorem d_MD_either_38 : decode Y_MD_either.2.1 38 = .ok (.iload_n 3, 1) := by decide +kernel
theorem d_MD_either_39 : decode Y_MD_either.2.1 39 = .ok (.if_icmp .ne (7), 3) := by decide +kernel
theorem d_MD_either_42 : decode Y_MD_either.2.1 42 = .ok (.iconst (1), 1) := by decide +kernel
theorem d_MD_either_43 : decode Y_MD_either.2.1 43 = .ok (.goto (4), 3) := by decide +kernel
theorem d_MD_either_46 : decode Y_MD_either.2.1 46 = .ok (.iconst (0), 1) := by decide +kernel
theorem d_MD_either_47 : decode Y_MD_either.2.1 47 = .ok (.istore 4, 2) := by decide +kernel
theorem d_MD_either_49 : decode Y_MD_either.2.1 49 = .ok (.iload 4, 2) := by decide +kernel
theorem d_MD_either_51 : decode Y_MD_either.2.1 51 = .ok (.ifCond .eq (20), 3) := by decide +kernel
theorem d_MD_either_54 : decode Y_MD_either.2.1 54 = .ok (.aload_n 0, 1) := by decide +kernel
theorem d_MD_either_55 : decode Y_MD_either.2.1 55 = .ok (.getfield 7, 3) := by decide +kernel
theorem d_MD_either_58 : decode Y_MD_either.2.1 58 = .ok (.aload_n 0, 1) := by decide +kernel
theorem d_MD_either_59 : decode Y_MD_either.2.1 59 = .ok (.getfield 131, 3) := by decide +kernel
theorem d_MD_either_62 : decode Y_MD_either.2.1 62 = .ok (.iaload, 1) := by decide +kernel
theorem d_MD_either_63 : decode Y_MD_either.2.1 63 = .ok (.iload_n 2, 1) := by decide +kernel
theorem d_MD_either_64 : decode Y_MD_either.2.1 64 = .ok (.if_icmp .ne (7), 3) := by decide +kernel
theorem d_MD_either_67 : decode Y_MD_either.2.1 67 = .ok (.iconst (1), 1) := by decide +kernel
theorem d_MD_either_68 : decode Y_MD_either.2.1 68 = .ok (.goto (4), 3) := by decide +kernel
theorem d_MD_either_71 : decode Y_MD_either.2.1 71 = .ok (.iconst (0), 1) := by decide +kernel
theorem d_MD_either_72 : decode Y_MD_either.2.1 72 = .ok (.istore 5, 2) := by decide +kernel
theorem d_MD_either_74 : decode Y_MD_either.2.1 74 = .ok (.aload_n 0, 1) := by decide +kernel
theorem d_MD_either_75 : decode Y_MD_either.2.1 75 = .ok (.dup, 1) := by decide +kernel
theorem d_MD_either_76 : decode Y_MD_either.2.1 76 = .ok (.getfield 131, 3) := by decide +kernel
theorem d_MD_either_79 : decode Y_MD_either.2.1 79 = .ok (.iload 4, 2) := by decide +kernel
theorem d_MD_either_81 : decode Y_MD_either.2.1 81 = .ok (.ifCond .eq (7), 3) := by decide +kernel
theorem d_MD_either_84 : decode Y_MD_either.2.1 84 = .ok (.iconst (1), 1) := by decide +kernel
theorem d_MD_either_85 : decode Y_MD_either.2.1 85 = .ok (.goto (4), 3) := by decide +kernel
theorem d_MD_either_88 : decode Y_MD_either.2.1 88 = .ok (.iconst (0), 1) := by decide +kernel
theorem d_MD_either_89 : decode Y_MD_either.2.1 89 = .ok (.iadd, 1) := by decide +kernel
theorem d_MD_either_90 : decode Y_MD_either.2.1 90 = .ok (.putfield 131, 3) := by decide +kernel
theorem d_MD_either_93 : decode Y_MD_either.2.1 93 = .ok (.iload 4, 2) := by decide +kernel
theorem d_MD_either_95 : decode Y_MD_either.2.1 95 = .ok (.ifCond .eq (8), 3) := by decide +kernel
theorem d_MD_either_98 : decode Y_MD_either.2.1 98 = .ok (.iload 5, 2) := by decide +kernel
theorem d_MD_either_100 : decode Y_MD_either.2.1 100 = .ok (.goto (4), 3) := by decide +kernel
theorem d_MD_either_103 : decode Y_MD_either.2.1 103 = .ok (.iconst (-1), 1) := by decide +kernel
theorem d_MD_either_104 : decode Y_MD_either.2.1 104 = .ok (.ireturn, 1) := by decide +kernel
def f_MD_either (w : zW) (D : zD) (a : Nat) (x1 : Int32) (x2 : Int32) (x3 : Int32) : Option (Int32 × zD) := zjp (fun (s0 : Int32) (D1 : zD) => zjp (fun (x4 : Int32) (s0 : Int32) (D2 : zD) => zjp (fun (x4 : Int32) (x5 : Int32) (s0 : Nat) (s1 : Int32) (s2 : Int32) (D3 : zD) => zjp (fun (s0 : Int32) (D4 : zD) => some (s0, D4)) (fun j104 => zput w D3 8 9 s0 (s1 + s2) (fun D5 => (if x4 = 0 then j104 (-1 : Int32) D5 else j104 x5 D5)))) (fun j89 => zfld w D2 8 9 a (fun v6 => (if x4 = 0 then j89 x4 s0 a v6 (0 : Int32) D2 else j89 x4 s0 a v6 (1 : Int32) D2)))) (fun j72 => zjp (fun (x4 : Int32) (D7 : zD) => j72 x4 (0 : Int32) D7) (fun j71 => (if s0 = 0 then j71 s0 D1 else zref w 8 1 a (fun p8 => zfld w D1 8 9 a (fun v9 => zald w D1 0 p8 v9 (fun v10 => (if v10 = x2 then j72 s0 (1 : Int32) D1 else j71 s0 D1)))))))) (fun j47 => zjp (fun (D11 : zD) => j47 (0 : Int32) D11) (fun j46 => (if x1 = (-1 : Int32) then j46 D else zfld w D 8 9 a (fun v12 => zfld w D 8 2 a (fun v13 => (if v13 ≤ v12 then j46 D else zjp (fun (D14 : zD) => j47 (1 : Int32) D14) (fun j42 => zref w 8 1 a (fun p15 => zfld w D 8 9 a (fun v16 => zald w D 0 p15 v16 (fun v17 => (if v17 = x2 then j42 D else zref w 8 1 a (fun p18 => zfld w D 8 9 a (fun v19 => zald w D 0 p18 v19 (fun v20 => (if v20 = x3 then j42 D else j46 D)))))))))))))))
set_option maxHeartbeats 4000000 in
set_option maxRecDepth 100000 in
theorem c_MD_either (z : zT) (D : zD) (a : Nat) (x1 : Int32) (x2 : Int32) (x3 : Int32) : zM Y_MD_either 1 0 0 (zqI z) (f_MD_either z.2 D a x1 x2 x3) [.ref a, .int x1, .int x2, .int x3] z D := by
  refine zM_of (plainFor_of_name (by decide +kernel)) rfl (Nat.le_of_ble_eq_true rfl) (fun _ _ _ _ h => nomatch h.1) (fun K => ?_)
  unfold f_MD_either
  refine z_jp (fun j47 : Int32 → zD → Option (Int32 × zD) => ∀ (s0 : Int32) (D1 : zD), zGO K Y_MD_either 1 0 0 (zqI z) (j47 s0 D1) 0 0 z D1 47 [(0, .ref a), (2, .int x2)] [.int s0]) (fun s0 D1 => ?_) (fun j47 h47 => ?_)
  · refine z_jp (fun j72 : Int32 → Int32 → zD → Option (Int32 × zD) => ∀ (x4 : Int32) (s0 : Int32) (D2 : zD), zGO K Y_MD_either 1 0 0 (zqI z) (j72 x4 s0 D2) 0 0 z D2 72 [(0, .ref a), (4, .int x4)] [.int s0]) (fun x4 s0 D2 => ?_) (fun j72 h72 => ?_)
    · refine z_jp (fun j89 : Int32 → Int32 → Nat → Int32 → Int32 → zD → Option (Int32 × zD) => ∀ (x4 : Int32) (x5 : Int32) (s0 : Nat) (s1 : Int32) (s2 : Int32) (D3 : zD), zGO K Y_MD_either 1 0 0 (zqI z) (j89 x4 x5 s0 s1 s2 D3) 0 0 z D3 89 [(4, .int x4), (5, .int x5)] [.int s2, .int s1, .ref s0]) (fun x4 x5 s0 s1 s2 D3 => ?_) (fun j89 h89 => ?_)
      · refine z_jp (fun j104 : Int32 → zD → Option (Int32 × zD) => ∀ (s0 : Int32) (D4 : zD), zGO K Y_MD_either 1 0 0 (zqI z) (j104 s0 D4) 0 0 z D4 104 [] [.int s0]) (fun s0 D4 => ?_) (fun j104 h104 => ?_)
        · exact z_iret (pc := 104) d_MD_either_104 rfl
        · refine z_iadd (pc := 89) d_MD_either_89 ?_
          refine z_putI (pc := 90) fl_MD_131 d_MD_either_90 (fun D5 => ?_)
          refine z_iload (pc := 93) d_MD_either_93 0 rfl ?_
          refine z_if_eq (pc := 95) (tgt := 103) d_MD_either_95 (by decide) ?_ ?_
          · refine z_iconst (pc := 103) d_MD_either_103 ki_m1 ?_
            exact z_sub [] rfl (h104 (-1 : Int32) D5)
          · refine z_iload (pc := 98) d_MD_either_98 1 rfl ?_
            refine z_goto (pc := 100) (tgt := 104) d_MD_either_100 (by decide) ?_
            exact z_sub [] rfl (h104 x5 D5)
      · refine z_istore (pc := 72) d_MD_either_72 (by decide) (lv' := [(5, .int s0), (0, .ref a), (4, .int x4)]) rfl ?_
        refine z_aload_n (pc := 74) d_MD_either_74 rfl 1 rfl ?_
        refine z_dup (pc := 75) d_MD_either_75 rfl ?_
        refine z_getI (pc := 76) fl_MD_131 d_MD_either_76 (fun v6 => ?_)
        refine z_iload (pc := 79) d_MD_either_79 2 rfl ?_
        refine z_if_eq (pc := 81) (tgt := 88) d_MD_either_81 (by decide) ?_ ?_
        · refine z_iconst (pc := 88) d_MD_either_88 ki_0 ?_
          exact z_sub [2, 0] rfl (h89 x4 s0 a v6 (0 : Int32) D2)
        · refine z_iconst (pc := 84) d_MD_either_84 ki_1 ?_
          refine z_goto (pc := 85) (tgt := 89) d_MD_either_85 (by decide) ?_
          exact z_sub [2, 0] rfl (h89 x4 s0 a v6 (1 : Int32) D2)
    · refine z_jp (fun j71 : Int32 → zD → Option (Int32 × zD) => ∀ (x4 : Int32) (D7 : zD), zGO K Y_MD_either 1 0 0 (zqI z) (j71 x4 D7) 0 0 z D7 71 [(0, .ref a), (4, .int x4)] []) (fun x4 D7 => ?_) (fun j71 h71 => ?_)
      · refine z_iconst (pc := 71) d_MD_either_71 ki_0 ?_
        exact z_sub [0, 1] rfl (h72 x4 (0 : Int32) D7)
      · refine z_istore (pc := 47) d_MD_either_47 (by decide) (lv' := [(4, .int s0), (0, .ref a), (2, .int x2)]) rfl ?_
        refine z_iload (pc := 49) d_MD_either_49 0 rfl ?_
        refine z_if_eq (pc := 51) (tgt := 71) d_MD_either_51 (by decide) ?_ ?_
        · exact z_sub [1, 0] rfl (h71 s0 D1)
        · refine z_aload_n (pc := 54) d_MD_either_54 rfl 1 rfl ?_
          refine z_getR (pc := 55) fl_MD_7 d_MD_either_55 (fun p8 => ?_)
          refine z_aload_n (pc := 58) d_MD_either_58 rfl 1 rfl ?_
          refine z_getI (pc := 59) fl_MD_131 d_MD_either_59 (fun v9 => ?_)
          refine z_iaload (pc := 62) d_MD_either_62 (fun v10 => ?_)
          refine z_iload_n (pc := 63) d_MD_either_63 rfl 2 rfl ?_
          refine z_icmp_ne (pc := 64) (tgt := 71) d_MD_either_64 (by decide) ?_ ?_
          · refine z_iconst (pc := 67) d_MD_either_67 ki_1 ?_
            refine z_goto (pc := 68) (tgt := 72) d_MD_either_68 (by decide) ?_
            exact z_sub [1, 0] rfl (h72 s0 (1 : Int32) D1)
          · exact z_sub [1, 0] rfl (h71 s0 D1)
  · refine z_jp (fun j46 : zD → Option (Int32 × zD) => ∀ (D11 : zD), zGO K Y_MD_either 1 0 0 (zqI z) (j46  D11) 0 0 z D11 46 [(0, .ref a), (2, .int x2)] []) (fun  D11 => ?_) (fun j46 h46 => ?_)
    · refine z_iconst (pc := 46) d_MD_either_46 ki_0 ?_
      exact z_sub [0, 1] rfl (h47 (0 : Int32) D11)
    · refine z_iload_n (pc := 0) d_MD_either_0 rfl 1 rfl ?_
      refine z_iconst (pc := 1) d_MD_either_1 ki_m1 ?_
      refine z_icmp_eq (pc := 2) (tgt := 46) d_MD_either_2 (by decide) ?_ ?_
      · exact z_sub [0, 2] rfl (h46 D)
      · refine z_aload_n (pc := 5) d_MD_either_5 rfl 0 rfl ?_
        refine z_getI (pc := 6) fl_MD_131 d_MD_either_6 (fun v12 => ?_)
        refine z_aload_n (pc := 9) d_MD_either_9 rfl 0 rfl ?_
        refine z_getI (pc := 10) fl_MD_124 d_MD_either_10 (fun v13 => ?_)
        refine z_icmp_ge (pc := 13) (tgt := 46) d_MD_either_13 (by decide) ?_ ?_
        · exact z_sub [0, 2] rfl (h46 D)
        · refine z_jp (fun j42 : zD → Option (Int32 × zD) => ∀ (D14 : zD), zGO K Y_MD_either 1 0 0 (zqI z) (j42  D14) 0 0 z D14 42 [(0, .ref a), (2, .int x2)] []) (fun  D14 => ?_) (fun j42 h42 => ?_)
          · refine z_iconst (pc := 42) d_MD_either_42 ki_1 ?_
            refine z_goto (pc := 43) (tgt := 47) d_MD_either_43 (by decide) ?_
            exact z_sub [0, 1] rfl (h47 (1 : Int32) D14)
          · refine z_aload_n (pc := 16) d_MD_either_16 rfl 0 rfl ?_
            refine z_getR (pc := 17) fl_MD_7 d_MD_either_17 (fun p15 => ?_)
            refine z_aload_n (pc := 20) d_MD_either_20 rfl 0 rfl ?_
            refine z_getI (pc := 21) fl_MD_131 d_MD_either_21 (fun v16 => ?_)
            refine z_iaload (pc := 24) d_MD_either_24 (fun v17 => ?_)
            refine z_iload_n (pc := 25) d_MD_either_25 rfl 2 rfl ?_
            refine z_icmp_eq (pc := 26) (tgt := 42) d_MD_either_26 (by decide) ?_ ?_
            · exact z_sub [0, 2] rfl (h42 D)
            · refine z_aload_n (pc := 29) d_MD_either_29 rfl 0 rfl ?_
              refine z_getR (pc := 30) fl_MD_7 d_MD_either_30 (fun p18 => ?_)
              refine z_aload_n (pc := 33) d_MD_either_33 rfl 0 rfl ?_
              refine z_getI (pc := 34) fl_MD_131 d_MD_either_34 (fun v19 => ?_)
              refine z_iaload (pc := 37) d_MD_either_37 (fun v20 => ?_)
              refine z_iload_n (pc := 38) d_MD_either_38 rfl 3 rfl ?_
              refine z_icmp_ne (pc := 39) (tgt := 46) d_MD_either_39 (by decide) ?_ ?_
              · exact z_sub [0, 2] rfl (h42 D)
              · exact z_sub [0, 2] rfl (h46 D)
theorem d_MD_done_0 : decode Y_MD_done.2.1 0 = .ok (.aload_n 0, 1) := by decide +kernel
theorem d_MD_done_1 : decode Y_MD_done.2.1 1 = .ok (.dup, 1) := by decide +kernel
theorem d_MD_done_2 : decode Y_MD_done.2.1 2 = .ok (.getfield 134, 3) := by decide +kernel
theorem d_MD_done_5 : decode Y_MD_done.2.1 5 = .ok (.iload_n 1, 1) := by decide +kernel
theorem d_MD_done_6 : decode Y_MD_done.2.1 6 = .ok (.ifCond .eq (7), 3) := by decide +kernel
theorem d_MD_done_9 : decode Y_MD_done.2.1 9 = .ok (.iconst (0), 1) := by decide +kernel
theorem d_MD_done_10 : decode Y_MD_done.2.1 10 = .ok (.goto (4), 3) := by decide +kernel
theorem d_MD_done_13 : decode Y_MD_done.2.1 13 = .ok (.iconst (1), 1) := by decide +kernel
theorem d_MD_done_14 : decode Y_MD_done.2.1 14 = .ok (.iadd, 1) := by decide +kernel
theorem d_MD_done_15 : decode Y_MD_done.2.1 15 = .ok (.putfield 134, 3) := by decide +kernel
theorem d_MD_done_18 : decode Y_MD_done.2.1 18 = .ok (.iconst (1), 1) := by decide +kernel
theorem d_MD_done_19 : decode Y_MD_done.2.1 19 = .ok (.ireturn, 1) := by decide +kernel
def f_MD_done (w : zW) (D : zD) (a : Nat) (x1 : Int32) : Option (Int32 × zD) := zjp (fun (s0 : Nat) (s1 : Int32) (s2 : Int32) (D1 : zD) => zput w D1 8 10 s0 (s1 + s2) (fun D2 => some ((1 : Int32), D2))) (fun j14 => zfld w D 8 10 a (fun v3 => (if x1 = 0 then j14 a v3 (1 : Int32) D else j14 a v3 (0 : Int32) D)))
set_option maxHeartbeats 4000000 in
set_option maxRecDepth 100000 in
theorem c_MD_done (z : zT) (D : zD) (a : Nat) (x1 : Int32) : zM Y_MD_done 1 0 0 (zqI z) (f_MD_done z.2 D a x1) [.ref a, .int x1] z D := by
  refine zM_of (plainFor_of_name (by decide +kernel)) rfl (Nat.le_of_ble_eq_true rfl) (fun _ _ _ _ h => nomatch h.1) (fun K => ?_)
  unfold f_MD_done
  refine z_jp (fun j14 : Nat → Int32 → Int32 → zD → Option (Int32 × zD) => ∀ (s0 : Nat) (s1 : Int32) (s2 : Int32) (D1 : zD), zGO K Y_MD_done 1 0 0 (zqI z) (j14 s0 s1 s2 D1) 0 0 z D1 14 [] [.int s2, .int s1, .ref s0]) (fun s0 s1 s2 D1 => ?_) (fun j14 h14 => ?_)
  · refine z_iadd (pc := 14) d_MD_done_14 ?_
    refine z_putI (pc := 15) fl_MD_134 d_MD_done_15 (fun D2 => ?_)
    refine z_iconst (pc := 18) d_MD_done_18 ki_1 ?_
    exact z_zretK (pc := 19) d_MD_done_19 rfl (by decide)
  · refine z_aload_n (pc := 0) d_MD_done_0 rfl 0 rfl ?_
    refine z_dup (pc := 1) d_MD_done_1 rfl ?_
    refine z_getI (pc := 2) fl_MD_134 d_MD_done_2 (fun v3 => ?_)
    refine z_iload_n (pc := 5) d_MD_done_5 rfl 1 rfl ?_
    refine z_if_eq (pc := 6) (tgt := 13) d_MD_done_6 (by decide) ?_ ?_
    · refine z_iconst (pc := 13) d_MD_done_13 ki_1 ?_
      exact z_sub [] rfl (h14 a v3 (1 : Int32) D)
    · refine z_iconst (pc := 9) d_MD_done_9 ki_0 ?_
      refine z_goto (pc := 10) (tgt := 14) d_MD_done_10 (by decide) ?_
      exact z_sub [] rfl (h14 a v3 (0 : Int32) D)
theorem d_MD_init_0 : decode Y_MD_init.2.1 0 = .ok (.aload_n 0, 1) := by decide +kernel
theorem d_MD_init_1 : decode Y_MD_init.2.1 1 = .ok (.invokespecial 1, 3) := by decide +kernel
theorem d_MD_init_4 : decode Y_MD_init.2.1 4 = .ok (.aload_n 0, 1) := by decide +kernel
theorem d_MD_init_5 : decode Y_MD_init.2.1 5 = .ok (.bipush (120), 2) := by decide +kernel
theorem d_MD_init_7 : decode Y_MD_init.2.1 7 = .ok (.newarray .int, 2) := by decide +kernel
theorem d_MD_init_9 : decode Y_MD_init.2.1 9 = .ok (.putfield 7, 3) := by decide +kernel
theorem d_MD_init_12 : decode Y_MD_init.2.1 12 = .ok (.aload_n 0, 1) := by decide +kernel
theorem d_MD_init_13 : decode Y_MD_init.2.1 13 = .ok (.sipush (521), 3) := by decide +kernel
theorem d_MD_init_16 : decode Y_MD_init.2.1 16 = .ok (.newarray .int, 2) := by decide +kernel
theorem d_MD_init_18 : decode Y_MD_init.2.1 18 = .ok (.putfield 13, 3) := by decide +kernel
theorem d_MD_init_21 : decode Y_MD_init.2.1 21 = .ok (.aload_n 0, 1) := by decide +kernel
theorem d_MD_init_22 : decode Y_MD_init.2.1 22 = .ok (.sipush (521), 3) := by decide +kernel
theorem d_MD_init_25 : decode Y_MD_init.2.1 25 = .ok (.newarray .int, 2) := by decide +kernel
theorem d_MD_init_27 : decode Y_MD_init.2.1 27 = .ok (.putfield 16, 3) := by decide +kernel
theorem d_MD_init_30 : decode Y_MD_init.2.1 30 = .ok (.aload_n 0, 1) := by decide +kernel
theorem d_MD_init_31 : decode Y_MD_init.2.1 31 = .ok (.sipush (7294), 3) := by decide +kernel
theorem d_MD_init_34 : decode Y_MD_init.2.1 34 = .ok (.newarray .int, 2) := by decide +kernel
theorem d_MD_init_36 : decode Y_MD_init.2.1 36 = .ok (.putfield 19, 3) := by decide +kernel
theorem d_MD_init_39 : decode Y_MD_init.2.1 39 = .ok (.aload_n 0, 1) := by decide +kernel
theorem d_MD_init_40 : decode Y_MD_init.2.1 40 = .ok (.sipush (1042), 3) := by decide +kernel
theorem d_MD_init_43 : decode Y_MD_init.2.1 43 = .ok (.newarray .int, 2) := by decide +kernel
theorem d_MD_init_45 : decode Y_MD_init.2.1 45 = .ok (.putfield 22, 3) := by decide +kernel
theorem d_MD_init_48 : decode Y_MD_init.2.1 48 = .ok (.aload_n 0, 1) := by decide +kernel
theorem d_MD_init_49 : decode Y_MD_init.2.1 49 = .ok (.iconst (2), 1) := by decide +kernel
theorem d_MD_init_50 : decode Y_MD_init.2.1 50 = .ok (.newarray .boolean, 2) := by decide +kernel
theorem d_MD_init_52 : decode Y_MD_init.2.1 52 = .ok (.putfield 25, 3) := by decide +kernel
theorem d_MD_init_55 : decode Y_MD_init.2.1 55 = .ok (.aload_n 0, 1) := by decide +kernel
theorem d_MD_init_56 : decode Y_MD_init.2.1 56 = .ok (.getfield 13, 3) := by decide +kernel
theorem d_MD_init_59 : decode Y_MD_init.2.1 59 = .ok (.invokestatic 29, 3) := by decide +kernel
theorem d_MD_init_62 : decode Y_MD_init.2.1 62 = .ok (.return_, 1) := by decide +kernel
def f_MD_init (z : zT) (D : zD) (a : Nat) : Option (zT × zD) := znew z D (.inl (0, 120)) (fun q1 z2 D3 => zputR z2 8 1 a q1 (fun z4 => znew z4 D3 (.inl (0, 521)) (fun q5 z6 D7 => zputR z6 8 3 a q5 (fun z8 => znew z8 D7 (.inl (0, 521)) (fun q9 z10 D11 => zputR z10 8 4 a q9 (fun z12 => znew z12 D11 (.inl (0, 7294)) (fun q13 z14 D15 => zputR z14 8 5 a q13 (fun z16 => znew z16 D15 (.inl (0, 1042)) (fun q17 z18 D19 => zputR z18 8 7 a q17 (fun z20 => znew z20 D19 (.inl (2, 2)) (fun q21 z22 D23 => zputR z22 8 8 a q21 (fun z24 => zref z24.2 8 3 a (fun p25 => zcv (f_MD_clear z24.2 D23 p25) (fun D26 => some (z24, D26)))))))))))))))
set_option maxHeartbeats 4000000 in
set_option maxRecDepth 100000 in
theorem c_MD_init (z : zT) (D : zD) (a : Nat) : zM Y_MD_init 2 6 9500 zqC (f_MD_init z D a) [.ref a] z D := by
  refine zM_of (plainFor_of_name (by decide +kernel)) rfl (Nat.le_of_ble_eq_true rfl) (fun _ _ _ _ h => nomatch h.1) (fun K => ?_)
  unfold f_MD_init
  refine z_aload_n (pc := 0) d_MD_init_0 rfl 0 rfl ?_
  refine z_objInit (pc := 1) w_ml_MD_1 w_oi1 w_oi2 (by decide) (Nat.le_of_ble_eq_true rfl) d_MD_init_1 ?_
  refine z_aload_n (pc := 4) d_MD_init_4 rfl 0 rfl ?_
  refine z_bipush (pc := 5) d_MD_init_5 kb_120 ?_
  refine z_newI (pc := 7) (kc2 := 5) (ks2 := 9380) w_ac_int (by decide) (by decide) (Nat.le_of_ble_eq_true rfl) (by decide) (by decide) d_MD_init_7 (fun q1 z2 D3 => ?_)
  refine z_putR (pc := 9) fl_MD_7 rfl (fun _ _ _ h => by cases h; rfl) (Or.inr ⟨_, rfl⟩) d_MD_init_9 (fun z4 => ?_)
  refine z_aload_n (pc := 12) d_MD_init_12 rfl 0 rfl ?_
  refine z_sipush (pc := 13) d_MD_init_13 ks_521 ?_
  refine z_newI (pc := 16) (kc2 := 4) (ks2 := 8859) w_ac_int (by decide) (by decide) (Nat.le_of_ble_eq_true rfl) (by decide) (by decide) d_MD_init_16 (fun q5 z6 D7 => ?_)
  refine z_putR (pc := 18) fl_MD_13 rfl (fun _ _ _ h => by cases h; rfl) (Or.inr ⟨_, rfl⟩) d_MD_init_18 (fun z8 => ?_)
  refine z_aload_n (pc := 21) d_MD_init_21 rfl 0 rfl ?_
  refine z_sipush (pc := 22) d_MD_init_22 ks_521 ?_
  refine z_newI (pc := 25) (kc2 := 3) (ks2 := 8338) w_ac_int (by decide) (by decide) (Nat.le_of_ble_eq_true rfl) (by decide) (by decide) d_MD_init_25 (fun q9 z10 D11 => ?_)
  refine z_putR (pc := 27) fl_MD_16 rfl (fun _ _ _ h => by cases h; rfl) (Or.inr ⟨_, rfl⟩) d_MD_init_27 (fun z12 => ?_)
  refine z_aload_n (pc := 30) d_MD_init_30 rfl 0 rfl ?_
  refine z_sipush (pc := 31) d_MD_init_31 ks_7294 ?_
  refine z_newI (pc := 34) (kc2 := 2) (ks2 := 1044) w_ac_int (by decide) (by decide) (Nat.le_of_ble_eq_true rfl) (by decide) (by decide) d_MD_init_34 (fun q13 z14 D15 => ?_)
  refine z_putR (pc := 36) fl_MD_19 rfl (fun _ _ _ h => by cases h; rfl) (Or.inr ⟨_, rfl⟩) d_MD_init_36 (fun z16 => ?_)
  refine z_aload_n (pc := 39) d_MD_init_39 rfl 0 rfl ?_
  refine z_sipush (pc := 40) d_MD_init_40 ks_1042 ?_
  refine z_newI (pc := 43) (kc2 := 1) (ks2 := 2) w_ac_int (by decide) (by decide) (Nat.le_of_ble_eq_true rfl) (by decide) (by decide) d_MD_init_43 (fun q17 z18 D19 => ?_)
  refine z_putR (pc := 45) fl_MD_22 rfl (fun _ _ _ h => by cases h; rfl) (Or.inr ⟨_, rfl⟩) d_MD_init_45 (fun z20 => ?_)
  refine z_aload_n (pc := 48) d_MD_init_48 rfl 0 rfl ?_
  refine z_iconst (pc := 49) d_MD_init_49 ki_2 ?_
  refine z_newB (pc := 50) (kc2 := 0) (ks2 := 0) w_ac_boolean (by decide) (by decide) (Nat.le_of_ble_eq_true rfl) (by decide) (by decide) d_MD_init_50 (fun q21 z22 D23 => ?_)
  refine z_putR (pc := 52) fl_MD_25 rfl (fun _ _ _ h => by cases h; rfl) (Or.inr ⟨_, rfl⟩) d_MD_init_52 (fun z24 => ?_)
  refine z_aload_n (pc := 55) d_MD_init_55 rfl 0 rfl ?_
  refine z_getR (pc := 56) fl_MD_13 d_MD_init_56 (fun p25 => ?_)
  refine z_callSv (pc := 59) [.ref p25] lkS_MD_29 (c_MD_clear z24 D23 p25) (by decide) rfl rfl (Nat.le_of_ble_eq_true rfl) d_MD_init_59 (fun D26 => ?_)
  exact z_cret (pc := 62) d_MD_init_62 rfl
theorem d_MD_isSiren_0 : decode Y_MD_isSiren.2.1 0 = .ok (.iload_n 1, 1) := by decide +kernel
theorem d_MD_isSiren_1 : decode Y_MD_isSiren.2.1 1 = .ok (.i2l, 1) := by decide +kernel
theorem d_MD_isSiren_2 : decode Y_MD_isSiren.2.1 2 = .ok (.lconst 0, 1) := by decide +kernel
theorem d_MD_isSiren_3 : decode Y_MD_isSiren.2.1 3 = .ok (.aload_n 0, 1) := by decide +kernel
theorem d_MD_isSiren_4 : decode Y_MD_isSiren.2.1 4 = .ok (.iconst (0), 1) := by decide +kernel
theorem d_MD_isSiren_5 : decode Y_MD_isSiren.2.1 5 = .ok (.iaload, 1) := by decide +kernel
theorem d_MD_isSiren_6 : decode Y_MD_isSiren.2.1 6 = .ok (.iconst (1), 1) := by decide +kernel
theorem d_MD_isSiren_7 : decode Y_MD_isSiren.2.1 7 = .ok (.isub, 1) := by decide +kernel
theorem d_MD_isSiren_8 : decode Y_MD_isSiren.2.1 8 = .ok (.i2l, 1) := by decide +kernel
theorem d_MD_isSiren_9 : decode Y_MD_isSiren.2.1 9 = .ok (.invokestatic 37, 3) := by decide +kernel
theorem d_MD_isSiren_12 : decode Y_MD_isSiren.2.1 12 = .ok (.ireturn, 1) := by decide +kernel
def f_MD_isSiren (w : zW) (D : zD) (r0 : Nat) (x1 : Int32) : Option (Int32 × zD) := zald w D 0 r0 (0 : Int32) (fun v1 => zci (f_MD_in w D x1.toInt64 (0 : Int64) ((v1 - (1 : Int32)).toInt64)) (fun v2 D3 => zchk (v2 = 0 ∨ v2 = 1) (some (v2, D3))))
set_option maxHeartbeats 4000000 in
set_option maxRecDepth 100000 in
theorem c_MD_isSiren (z : zT) (D : zD) (r0 : Nat) (x1 : Int32) : zM Y_MD_isSiren 2 0 0 (zqI z) (f_MD_isSiren z.2 D r0 x1) [.ref r0, .int x1] z D := by
  refine zM_of (plainFor_of_name (by decide +kernel)) rfl (Nat.le_of_ble_eq_true rfl) (fun _ _ _ _ h => nomatch h.1) (fun K => ?_)
  unfold f_MD_isSiren
  refine z_iload_n (pc := 0) d_MD_isSiren_0 rfl 1 rfl ?_
  refine z_i2l (pc := 1) d_MD_isSiren_1 ?_
  refine z_lconst (pc := 2) d_MD_isSiren_2 (v := 0) rfl ?_
  refine z_aload_n (pc := 3) d_MD_isSiren_3 rfl 0 rfl ?_
  refine z_iconst (pc := 4) d_MD_isSiren_4 ki_0 ?_
  refine z_iaload (pc := 5) d_MD_isSiren_5 (fun v1 => ?_)
  refine z_iconst (pc := 6) d_MD_isSiren_6 ki_1 ?_
  refine z_isub (pc := 7) d_MD_isSiren_7 ?_
  refine z_i2l (pc := 8) d_MD_isSiren_8 ?_
  refine z_callSi (pc := 9) [.long x1.toInt64, .long (0 : Int64), .long ((v1 - (1 : Int32)).toInt64)] lkS_MD_37 (c_MD_in z D x1.toInt64 (0 : Int64) ((v1 - (1 : Int32)).toInt64)) (by decide) rfl rfl (Nat.le_of_ble_eq_true rfl) d_MD_isSiren_9 (fun v2 D3 => ?_)
  exact z_zret (pc := 12) d_MD_isSiren_12 rfl
theorem d_MD_isHearer_0 : decode Y_MD_isHearer.2.1 0 = .ok (.iload_n 1, 1) := by decide +kernel
theorem d_MD_isHearer_1 : decode Y_MD_isHearer.2.1 1 = .ok (.i2l, 1) := by decide +kernel
theorem d_MD_isHearer_2 : decode Y_MD_isHearer.2.1 2 = .ok (.lconst 0, 1) := by decide +kernel
theorem d_MD_isHearer_3 : decode Y_MD_isHearer.2.1 3 = .ok (.aload_n 0, 1) := by decide +kernel
theorem d_MD_isHearer_4 : decode Y_MD_isHearer.2.1 4 = .ok (.iconst (1), 1) := by decide +kernel
theorem d_MD_isHearer_5 : decode Y_MD_isHearer.2.1 5 = .ok (.iaload, 1) := by decide +kernel
theorem d_MD_isHearer_6 : decode Y_MD_isHearer.2.1 6 = .ok (.iconst (1), 1) := by decide +kernel
theorem d_MD_isHearer_7 : decode Y_MD_isHearer.2.1 7 = .ok (.isub, 1) := by decide +kernel
theorem d_MD_isHearer_8 : decode Y_MD_isHearer.2.1 8 = .ok (.i2l, 1) := by decide +kernel
theorem d_MD_isHearer_9 : decode Y_MD_isHearer.2.1 9 = .ok (.invokestatic 37, 3) := by decide +kernel
theorem d_MD_isHearer_12 : decode Y_MD_isHearer.2.1 12 = .ok (.ireturn, 1) := by decide +kernel
def f_MD_isHearer (w : zW) (D : zD) (r0 : Nat) (x1 : Int32) : Option (Int32 × zD) := zald w D 0 r0 (1 : Int32) (fun v1 => zci (f_MD_in w D x1.toInt64 (0 : Int64) ((v1 - (1 : Int32)).toInt64)) (fun v2 D3 => zchk (v2 = 0 ∨ v2 = 1) (some (v2, D3))))
set_option maxHeartbeats 4000000 in
set_option maxRecDepth 100000 in
theorem c_MD_isHearer (z : zT) (D : zD) (r0 : Nat) (x1 : Int32) : zM Y_MD_isHearer 2 0 0 (zqI z) (f_MD_isHearer z.2 D r0 x1) [.ref r0, .int x1] z D := by
  refine zM_of (plainFor_of_name (by decide +kernel)) rfl (Nat.le_of_ble_eq_true rfl) (fun _ _ _ _ h => nomatch h.1) (fun K => ?_)
  unfold f_MD_isHearer
  refine z_iload_n (pc := 0) d_MD_isHearer_0 rfl 1 rfl ?_
  refine z_i2l (pc := 1) d_MD_isHearer_1 ?_
  refine z_lconst (pc := 2) d_MD_isHearer_2 (v := 0) rfl ?_
  refine z_aload_n (pc := 3) d_MD_isHearer_3 rfl 0 rfl ?_
  refine z_iconst (pc := 4) d_MD_isHearer_4 ki_1 ?_
  refine z_iaload (pc := 5) d_MD_isHearer_5 (fun v1 => ?_)
  refine z_iconst (pc := 6) d_MD_isHearer_6 ki_1 ?_
  refine z_isub (pc := 7) d_MD_isHearer_7 ?_
  refine z_i2l (pc := 8) d_MD_isHearer_8 ?_
  refine z_callSi (pc := 9) [.long x1.toInt64, .long (0 : Int64), .long ((v1 - (1 : Int32)).toInt64)] lkS_MD_37 (c_MD_in z D x1.toInt64 (0 : Int64) ((v1 - (1 : Int32)).toInt64)) (by decide) rfl rfl (Nat.le_of_ble_eq_true rfl) d_MD_isHearer_9 (fun v2 D3 => ?_)
  exact z_zret (pc := 12) d_MD_isHearer_12 rfl
theorem d_MD_isSetting_0 : decode Y_MD_isSetting.2.1 0 = .ok (.iload_n 0, 1) := by decide +kernel
theorem d_MD_isSetting_1 : decode Y_MD_isSetting.2.1 1 = .ok (.ifCond .ne (15), 3) := by decide +kernel
theorem d_MD_isSetting_4 : decode Y_MD_isSetting.2.1 4 = .ok (.iload_n 1, 1) := by decide +kernel
theorem d_MD_isSetting_5 : decode Y_MD_isSetting.2.1 5 = .ok (.i2l, 1) := by decide +kernel
theorem d_MD_isSetting_6 : decode Y_MD_isSetting.2.1 6 = .ok (.lconst 1, 1) := by decide +kernel
theorem d_MD_isSetting_7 : decode Y_MD_isSetting.2.1 7 = .ok (.ldc2_w 41, 3) := by decide +kernel
theorem d_MD_isSetting_10 : decode Y_MD_isSetting.2.1 10 = .ok (.invokestatic 37, 3) := by decide +kernel
theorem d_MD_isSetting_13 : decode Y_MD_isSetting.2.1 13 = .ok (.ifCond .ne (20), 3) := by decide +kernel
theorem d_MD_isSetting_16 : decode Y_MD_isSetting.2.1 16 = .ok (.iload_n 0, 1) := by decide +kernel
theorem d_MD_isSetting_17 : decode Y_MD_isSetting.2.1 17 = .ok (.iconst (1), 1) := by decide +kernel
theorem d_MD_isSetting_18 : decode Y_MD_isSetting.2.1 18 = .ok (.if_icmp .ne (19), 3) := by decide +kernel
theorem d_MD_isSetting_21 : decode Y_MD_isSetting.2.1 21 = .ok (.iload_n 1, 1) := by decide +kernel
theorem d_MD_isSetting_22 : decode Y_MD_isSetting.2.1 22 = .ok (.i2l, 1) := by decide +kernel
theorem d_MD_isSetting_23 : decode Y_MD_isSetting.2.1 23 = .ok (.lconst 1, 1) := by decide +kernel
theorem d_MD_isSetting_24 : decode Y_MD_isSetting.2.1 24 = .ok (.ldc2_w 43, 3) := by decide +kernel
theorem d_MD_isSetting_27 : decode Y_MD_isSetting.2.1 27 = .ok (.invokestatic 37, 3) := by decide +kernel
theorem d_MD_isSetting_30 : decode Y_MD_isSetting.2.1 30 = .ok (.ifCond .eq (7), 3) := by decide +kernel
theorem d_MD_isSetting_33 : decode Y_MD_isSetting.2.1 33 = .ok (.iconst (1), 1) := by decide +kernel
theorem d_MD_isSetting_34 : decode Y_MD_isSetting.2.1 34 = .ok (.goto (4), 3) := by decide +kernel
theorem d_MD_isSetting_37 : decode Y_MD_isSetting.2.1 37 = .ok (.iconst (0), 1) := by decide +kernel
theorem d_MD_isSetting_38 : decode Y_MD_isSetting.2.1 38 = .ok (.ireturn, 1) := by decide +kernel
def f_MD_isSetting (w : zW) (D : zD) (x0 : Int32) (x1 : Int32) : Option (Int32 × zD) := zjp (fun (s0 : Int32) (D1 : zD) => zchk (s0 = 0 ∨ s0 = 1) (some (s0, D1))) (fun j38 => zjp (fun (D2 : zD) => j38 (1 : Int32) D2) (fun j33 => zjp (fun (D3 : zD) => zjp (fun (D4 : zD) => j38 (0 : Int32) D4) (fun j37 => (if x0 = (1 : Int32) then zci (f_MD_in w D3 x1.toInt64 (1 : Int64) (99 : Int64)) (fun v5 D6 => (if v5 = 0 then j37 D6 else j33 D6)) else j37 D3))) (fun j16 => (if x0 = 0 then zci (f_MD_in w D x1.toInt64 (1 : Int64) (9 : Int64)) (fun v7 D8 => (if v7 = 0 then j16 D8 else j33 D8)) else j16 D))))
set_option maxHeartbeats 4000000 in
set_option maxRecDepth 100000 in
theorem c_MD_isSetting (z : zT) (D : zD) (x0 : Int32) (x1 : Int32) : zM Y_MD_isSetting 2 0 0 (zqI z) (f_MD_isSetting z.2 D x0 x1) [.int x0, .int x1] z D := by
  refine zM_of (plainFor_of_name (by decide +kernel)) rfl (Nat.le_of_ble_eq_true rfl) (fun _ _ _ _ h => nomatch h.1) (fun K => ?_)
  unfold f_MD_isSetting
  refine z_jp (fun j38 : Int32 → zD → Option (Int32 × zD) => ∀ (s0 : Int32) (D1 : zD), zGO K Y_MD_isSetting 2 0 0 (zqI z) (j38 s0 D1) 0 0 z D1 38 [] [.int s0]) (fun s0 D1 => ?_) (fun j38 h38 => ?_)
  · exact z_zret (pc := 38) d_MD_isSetting_38 rfl
  · refine z_jp (fun j33 : zD → Option (Int32 × zD) => ∀ (D2 : zD), zGO K Y_MD_isSetting 2 0 0 (zqI z) (j33  D2) 0 0 z D2 33 [] []) (fun  D2 => ?_) (fun j33 h33 => ?_)
    · refine z_iconst (pc := 33) d_MD_isSetting_33 ki_1 ?_
      refine z_goto (pc := 34) (tgt := 38) d_MD_isSetting_34 (by decide) ?_
      exact z_sub [] rfl (h38 (1 : Int32) D2)
    · refine z_jp (fun j16 : zD → Option (Int32 × zD) => ∀ (D3 : zD), zGO K Y_MD_isSetting 2 0 0 (zqI z) (j16  D3) 0 0 z D3 16 [(0, .int x0), (1, .int x1)] []) (fun  D3 => ?_) (fun j16 h16 => ?_)
      · refine z_jp (fun j37 : zD → Option (Int32 × zD) => ∀ (D4 : zD), zGO K Y_MD_isSetting 2 0 0 (zqI z) (j37  D4) 0 0 z D4 37 [] []) (fun  D4 => ?_) (fun j37 h37 => ?_)
        · refine z_iconst (pc := 37) d_MD_isSetting_37 ki_0 ?_
          exact z_sub [] rfl (h38 (0 : Int32) D4)
        · refine z_iload_n (pc := 16) d_MD_isSetting_16 rfl 0 rfl ?_
          refine z_iconst (pc := 17) d_MD_isSetting_17 ki_1 ?_
          refine z_icmp_ne (pc := 18) (tgt := 37) d_MD_isSetting_18 (by decide) ?_ ?_
          · refine z_iload_n (pc := 21) d_MD_isSetting_21 rfl 1 rfl ?_
            refine z_i2l (pc := 22) d_MD_isSetting_22 ?_
            refine z_lconst (pc := 23) d_MD_isSetting_23 (v := 1) rfl ?_
            refine z_ldc2 (pc := 24) w_k_MD_43 d_MD_isSetting_24 ?_
            refine z_callSi (pc := 27) [.long x1.toInt64, .long (1 : Int64), .long (99 : Int64)] lkS_MD_37 (c_MD_in z D3 x1.toInt64 (1 : Int64) (99 : Int64)) (by decide) rfl rfl (Nat.le_of_ble_eq_true rfl) d_MD_isSetting_27 (fun v5 D6 => ?_)
            refine z_if_eq (pc := 30) (tgt := 37) d_MD_isSetting_30 (by decide) ?_ ?_
            · exact z_sub [] rfl (h37 D6)
            · exact z_sub [] rfl (h33 D6)
          · exact z_sub [] rfl (h37 D3)
      · refine z_iload_n (pc := 0) d_MD_isSetting_0 rfl 0 rfl ?_
        refine z_if_ne (pc := 1) (tgt := 16) d_MD_isSetting_1 (by decide) ?_ ?_
        · refine z_iload_n (pc := 4) d_MD_isSetting_4 rfl 1 rfl ?_
          refine z_i2l (pc := 5) d_MD_isSetting_5 ?_
          refine z_lconst (pc := 6) d_MD_isSetting_6 (v := 1) rfl ?_
          refine z_ldc2 (pc := 7) w_k_MD_41 d_MD_isSetting_7 ?_
          refine z_callSi (pc := 10) [.long x1.toInt64, .long (1 : Int64), .long (9 : Int64)] lkS_MD_37 (c_MD_in z D x1.toInt64 (1 : Int64) (9 : Int64)) (by decide) rfl rfl (Nat.le_of_ble_eq_true rfl) d_MD_isSetting_10 (fun v7 D8 => ?_)
          refine z_if_ne (pc := 13) (tgt := 33) d_MD_isSetting_13 (by decide) ?_ ?_
          · exact z_sub [0, 1] rfl (h16 D8)
          · exact z_sub [] rfl (h33 D8)
        · exact z_sub [0, 1] rfl (h16 D)
theorem d_MD_ring_0 : decode Y_MD_ring.2.1 0 = .ok (.bipush (8), 2) := by decide +kernel
theorem d_MD_ring_2 : decode Y_MD_ring.2.1 2 = .ok (.aload_n 0, 1) := by decide +kernel
theorem d_MD_ring_3 : decode Y_MD_ring.2.1 3 = .ok (.iload_n 1, 1) := by decide +kernel
theorem d_MD_ring_4 : decode Y_MD_ring.2.1 4 = .ok (.iconst (2), 1) := by decide +kernel
theorem d_MD_ring_5 : decode Y_MD_ring.2.1 5 = .ok (.invokestatic 45, 3) := by decide +kernel
theorem d_MD_ring_8 : decode Y_MD_ring.2.1 8 = .ok (.imul, 1) := by decide +kernel
theorem d_MD_ring_9 : decode Y_MD_ring.2.1 9 = .ok (.ireturn, 1) := by decide +kernel
def f_MD_ring (w : zW) (D : zD) (r0 : Nat) (x1 : Int32) : Option (Int32 × zD) := zci (f_MD_ofSiren w D r0 x1 (2 : Int32)) (fun v1 D2 => some ((8 : Int32) * v1, D2))
set_option maxHeartbeats 4000000 in
set_option maxRecDepth 100000 in
theorem c_MD_ring (z : zT) (D : zD) (r0 : Nat) (x1 : Int32) : zM Y_MD_ring 2 0 0 (zqI z) (f_MD_ring z.2 D r0 x1) [.ref r0, .int x1] z D := by
  refine zM_of (plainFor_of_name (by decide +kernel)) rfl (Nat.le_of_ble_eq_true rfl) (fun _ _ _ _ h => nomatch h.1) (fun K => ?_)
  unfold f_MD_ring
  refine z_bipush (pc := 0) d_MD_ring_0 kb_8 ?_
  refine z_aload_n (pc := 2) d_MD_ring_2 rfl 0 rfl ?_
  refine z_iload_n (pc := 3) d_MD_ring_3 rfl 1 rfl ?_
  refine z_iconst (pc := 4) d_MD_ring_4 ki_2 ?_
  refine z_callSi (pc := 5) [.ref r0, .int x1, .int (2 : Int32)] lkS_MD_45 (c_MD_ofSiren z D r0 x1 (2 : Int32)) (by decide) rfl rfl (Nat.le_of_ble_eq_true rfl) d_MD_ring_5 (fun v1 D2 => ?_)
  refine z_imul (pc := 8) d_MD_ring_8 ?_
  exact z_iret (pc := 9) d_MD_ring_9 rfl
theorem d_MD_xOf_0 : decode Y_MD_xOf.2.1 0 = .ok (.aload_n 0, 1) := by decide +kernel
theorem d_MD_xOf_1 : decode Y_MD_xOf.2.1 1 = .ok (.iload_n 1, 1) := by decide +kernel
theorem d_MD_xOf_2 : decode Y_MD_xOf.2.1 2 = .ok (.iconst (2), 1) := by decide +kernel
theorem d_MD_xOf_3 : decode Y_MD_xOf.2.1 3 = .ok (.invokestatic 45, 3) := by decide +kernel
theorem d_MD_xOf_6 : decode Y_MD_xOf.2.1 6 = .ok (.istore_n 2, 1) := by decide +kernel
theorem d_MD_xOf_7 : decode Y_MD_xOf.2.1 7 = .ok (.aload_n 0, 1) := by decide +kernel
theorem d_MD_xOf_8 : decode Y_MD_xOf.2.1 8 = .ok (.iload_n 1, 1) := by decide +kernel
theorem d_MD_xOf_9 : decode Y_MD_xOf.2.1 9 = .ok (.bipush (6), 2) := by decide +kernel
theorem d_MD_xOf_11 : decode Y_MD_xOf.2.1 11 = .ok (.invokestatic 45, 3) := by decide +kernel
theorem d_MD_xOf_14 : decode Y_MD_xOf.2.1 14 = .ok (.istore_n 3, 1) := by decide +kernel
theorem d_MD_xOf_15 : decode Y_MD_xOf.2.1 15 = .ok (.iload_n 3, 1) := by decide +kernel
theorem d_MD_xOf_16 : decode Y_MD_xOf.2.1 16 = .ok (.iconst (2), 1) := by decide +kernel
theorem d_MD_xOf_17 : decode Y_MD_xOf.2.1 17 = .ok (.iload_n 2, 1) := by decide +kernel
theorem d_MD_xOf_18 : decode Y_MD_xOf.2.1 18 = .ok (.imul, 1) := by decide +kernel
theorem d_MD_xOf_19 : decode Y_MD_xOf.2.1 19 = .ok (.if_icmp .ge (9), 3) := by decide +kernel
theorem d_MD_xOf_22 : decode Y_MD_xOf.2.1 22 = .ok (.iload_n 3, 1) := by decide +kernel
theorem d_MD_xOf_23 : decode Y_MD_xOf.2.1 23 = .ok (.iload_n 2, 1) := by decide +kernel
theorem d_MD_xOf_24 : decode Y_MD_xOf.2.1 24 = .ok (.isub, 1) := by decide +kernel
theorem d_MD_xOf_25 : decode Y_MD_xOf.2.1 25 = .ok (.goto (32), 3) := by decide +kernel
theorem d_MD_xOf_28 : decode Y_MD_xOf.2.1 28 = .ok (.iload_n 3, 1) := by decide +kernel
theorem d_MD_xOf_29 : decode Y_MD_xOf.2.1 29 = .ok (.iconst (4), 1) := by decide +kernel
theorem d_MD_xOf_30 : decode Y_MD_xOf.2.1 30 = .ok (.iload_n 2, 1) := by decide +kernel
theorem d_MD_xOf_31 : decode Y_MD_xOf.2.1 31 = .ok (.imul, 1) := by decide +kernel
theorem d_MD_xOf_32 : decode Y_MD_xOf.2.1 32 = .ok (.if_icmp .ge (7), 3) := by decide +kernel
theorem d_MD_xOf_35 : decode Y_MD_xOf.2.1 35 = .ok (.iload_n 2, 1) := by decide +kernel
theorem d_MD_xOf_36 : decode Y_MD_xOf.2.1 36 = .ok (.goto (21), 3) := by decide +kernel
theorem d_MD_xOf_39 : decode Y_MD_xOf.2.1 39 = .ok (.iload_n 3, 1) := by decide +kernel
theorem d_MD_xOf_40 : decode Y_MD_xOf.2.1 40 = .ok (.bipush (6), 2) := by decide +kernel
theorem d_MD_xOf_42 : decode Y_MD_xOf.2.1 42 = .ok (.iload_n 2, 1) := by decide +kernel
theorem d_MD_xOf_43 : decode Y_MD_xOf.2.1 43 = .ok (.imul, 1) := by decide +kernel
theorem d_MD_xOf_44 : decode Y_MD_xOf.2.1 44 = .ok (.if_icmp .ge (11), 3) := by decide +kernel
theorem d_MD_xOf_47 : decode Y_MD_xOf.2.1 47 = .ok (.iconst (5), 1) := by decide +kernel
theorem d_MD_xOf_48 : decode Y_MD_xOf.2.1 48 = .ok (.iload_n 2, 1) := by decide +kernel
theorem d_MD_xOf_49 : decode Y_MD_xOf.2.1 49 = .ok (.imul, 1) := by decide +kernel
theorem d_MD_xOf_50 : decode Y_MD_xOf.2.1 50 = .ok (.iload_n 3, 1) := by decide +kernel
theorem d_MD_xOf_51 : decode Y_MD_xOf.2.1 51 = .ok (.isub, 1) := by decide +kernel
theorem d_MD_xOf_52 : decode Y_MD_xOf.2.1 52 = .ok (.goto (5), 3) := by decide +kernel
theorem d_MD_xOf_55 : decode Y_MD_xOf.2.1 55 = .ok (.iload_n 2, 1) := by decide +kernel
theorem d_MD_xOf_56 : decode Y_MD_xOf.2.1 56 = .ok (.ineg, 1) := by decide +kernel
theorem d_MD_xOf_57 : decode Y_MD_xOf.2.1 57 = .ok (.istore 4, 2) := by decide +kernel
theorem d_MD_xOf_59 : decode Y_MD_xOf.2.1 59 = .ok (.aload_n 0, 1) := by decide +kernel
theorem d_MD_xOf_60 : decode Y_MD_xOf.2.1 60 = .ok (.iload_n 1, 1) := by decide +kernel
theorem d_MD_xOf_61 : decode Y_MD_xOf.2.1 61 = .ok (.iconst (0), 1) := by decide +kernel
theorem d_MD_xOf_62 : decode Y_MD_xOf.2.1 62 = .ok (.invokestatic 45, 3) := by decide +kernel
theorem d_MD_xOf_65 : decode Y_MD_xOf.2.1 65 = .ok (.iload 4, 2) := by decide +kernel
theorem d_MD_xOf_67 : decode Y_MD_xOf.2.1 67 = .ok (.iadd, 1) := by decide +kernel
theorem d_MD_xOf_68 : decode Y_MD_xOf.2.1 68 = .ok (.ireturn, 1) := by decide +kernel
def f_MD_xOf (w : zW) (D : zD) (r0 : Nat) (x1 : Int32) : Option (Int32 × zD) := zjp (fun (s0 : Int32) (D1 : zD) => zci (f_MD_ofSiren w D1 r0 x1 (0 : Int32)) (fun v2 D3 => some (v2 + s0, D3))) (fun j57 => zci (f_MD_ofSiren w D r0 x1 (2 : Int32)) (fun v4 D5 => zci (f_MD_ofSiren w D5 r0 x1 (6 : Int32)) (fun v6 D7 => (if ((2 : Int32) * v4) ≤ v6 then (if ((4 : Int32) * v4) ≤ v6 then (if ((6 : Int32) * v4) ≤ v6 then j57 (-v4) D7 else j57 (((5 : Int32) * v4) - v6) D7) else j57 v4 D7) else j57 (v6 - v4) D7))))
set_option maxHeartbeats 4000000 in
set_option maxRecDepth 100000 in
theorem c_MD_xOf (z : zT) (D : zD) (r0 : Nat) (x1 : Int32) : zM Y_MD_xOf 2 0 0 (zqI z) (f_MD_xOf z.2 D r0 x1) [.ref r0, .int x1] z D := by
  refine zM_of (plainFor_of_name (by decide +kernel)) rfl (Nat.le_of_ble_eq_true rfl) (fun _ _ _ _ h => nomatch h.1) (fun K => ?_)
  unfold f_MD_xOf
  refine z_jp (fun j57 : Int32 → zD → Option (Int32 × zD) => ∀ (s0 : Int32) (D1 : zD), zGO K Y_MD_xOf 2 0 0 (zqI z) (j57 s0 D1) 0 0 z D1 57 [(0, .ref r0), (1, .int x1)] [.int s0]) (fun s0 D1 => ?_) (fun j57 h57 => ?_)
  · refine z_istore (pc := 57) d_MD_xOf_57 (by decide) (lv' := [(4, .int s0), (0, .ref r0), (1, .int x1)]) rfl ?_
    refine z_aload_n (pc := 59) d_MD_xOf_59 rfl 1 rfl ?_
    refine z_iload_n (pc := 60) d_MD_xOf_60 rfl 2 rfl ?_
    refine z_iconst (pc := 61) d_MD_xOf_61 ki_0 ?_
    refine z_callSi (pc := 62) [.ref r0, .int x1, .int (0 : Int32)] lkS_MD_45 (c_MD_ofSiren z D1 r0 x1 (0 : Int32)) (by decide) rfl rfl (Nat.le_of_ble_eq_true rfl) d_MD_xOf_62 (fun v2 D3 => ?_)
    refine z_iload (pc := 65) d_MD_xOf_65 0 rfl ?_
    refine z_iadd (pc := 67) d_MD_xOf_67 ?_
    exact z_iret (pc := 68) d_MD_xOf_68 rfl
  · refine z_aload_n (pc := 0) d_MD_xOf_0 rfl 0 rfl ?_
    refine z_iload_n (pc := 1) d_MD_xOf_1 rfl 1 rfl ?_
    refine z_iconst (pc := 2) d_MD_xOf_2 ki_2 ?_
    refine z_callSi (pc := 3) [.ref r0, .int x1, .int (2 : Int32)] lkS_MD_45 (c_MD_ofSiren z D r0 x1 (2 : Int32)) (by decide) rfl rfl (Nat.le_of_ble_eq_true rfl) d_MD_xOf_3 (fun v4 D5 => ?_)
    refine z_istore_n (pc := 6) d_MD_xOf_6 rfl (by decide) (lv' := [(2, .int v4), (0, .ref r0), (1, .int x1)]) rfl ?_
    refine z_aload_n (pc := 7) d_MD_xOf_7 rfl 1 rfl ?_
    refine z_iload_n (pc := 8) d_MD_xOf_8 rfl 2 rfl ?_
    refine z_bipush (pc := 9) d_MD_xOf_9 kb_6 ?_
    refine z_callSi (pc := 11) [.ref r0, .int x1, .int (6 : Int32)] lkS_MD_45 (c_MD_ofSiren z D5 r0 x1 (6 : Int32)) (by decide) rfl rfl (Nat.le_of_ble_eq_true rfl) d_MD_xOf_11 (fun v6 D7 => ?_)
    refine z_istore_n (pc := 14) d_MD_xOf_14 rfl (by decide) (lv' := [(3, .int v6), (2, .int v4), (0, .ref r0), (1, .int x1)]) rfl ?_
    refine z_iload_n (pc := 15) d_MD_xOf_15 rfl 0 rfl ?_
    refine z_iconst (pc := 16) d_MD_xOf_16 ki_2 ?_
    refine z_iload_n (pc := 17) d_MD_xOf_17 rfl 1 rfl ?_
    refine z_imul (pc := 18) d_MD_xOf_18 ?_
    refine z_icmp_ge (pc := 19) (tgt := 28) d_MD_xOf_19 (by decide) ?_ ?_
    · refine z_iload_n (pc := 28) d_MD_xOf_28 rfl 0 rfl ?_
      refine z_iconst (pc := 29) d_MD_xOf_29 ki_4 ?_
      refine z_iload_n (pc := 30) d_MD_xOf_30 rfl 1 rfl ?_
      refine z_imul (pc := 31) d_MD_xOf_31 ?_
      refine z_icmp_ge (pc := 32) (tgt := 39) d_MD_xOf_32 (by decide) ?_ ?_
      · refine z_iload_n (pc := 39) d_MD_xOf_39 rfl 0 rfl ?_
        refine z_bipush (pc := 40) d_MD_xOf_40 kb_6 ?_
        refine z_iload_n (pc := 42) d_MD_xOf_42 rfl 1 rfl ?_
        refine z_imul (pc := 43) d_MD_xOf_43 ?_
        refine z_icmp_ge (pc := 44) (tgt := 55) d_MD_xOf_44 (by decide) ?_ ?_
        · refine z_iload_n (pc := 55) d_MD_xOf_55 rfl 1 rfl ?_
          refine z_ineg (pc := 56) d_MD_xOf_56 ?_
          exact z_sub [2, 3] rfl (h57 (-v4) D7)
        · refine z_iconst (pc := 47) d_MD_xOf_47 ki_5 ?_
          refine z_iload_n (pc := 48) d_MD_xOf_48 rfl 1 rfl ?_
          refine z_imul (pc := 49) d_MD_xOf_49 ?_
          refine z_iload_n (pc := 50) d_MD_xOf_50 rfl 0 rfl ?_
          refine z_isub (pc := 51) d_MD_xOf_51 ?_
          refine z_goto (pc := 52) (tgt := 57) d_MD_xOf_52 (by decide) ?_
          exact z_sub [2, 3] rfl (h57 (((5 : Int32) * v4) - v6) D7)
      · refine z_iload_n (pc := 35) d_MD_xOf_35 rfl 1 rfl ?_
        refine z_goto (pc := 36) (tgt := 57) d_MD_xOf_36 (by decide) ?_
        exact z_sub [2, 3] rfl (h57 v4 D7)
    · refine z_iload_n (pc := 22) d_MD_xOf_22 rfl 0 rfl ?_
      refine z_iload_n (pc := 23) d_MD_xOf_23 rfl 1 rfl ?_
      refine z_isub (pc := 24) d_MD_xOf_24 ?_
      refine z_goto (pc := 25) (tgt := 57) d_MD_xOf_25 (by decide) ?_
      exact z_sub [2, 3] rfl (h57 (v6 - v4) D7)
theorem d_MD_yOf_0 : decode Y_MD_yOf.2.1 0 = .ok (.aload_n 0, 1) := by decide +kernel
theorem d_MD_yOf_1 : decode Y_MD_yOf.2.1 1 = .ok (.iload_n 1, 1) := by decide +kernel
theorem d_MD_yOf_2 : decode Y_MD_yOf.2.1 2 = .ok (.iconst (2), 1) := by decide +kernel
theorem d_MD_yOf_3 : decode Y_MD_yOf.2.1 3 = .ok (.invokestatic 45, 3) := by decide +kernel
theorem d_MD_yOf_6 : decode Y_MD_yOf.2.1 6 = .ok (.istore_n 2, 1) := by decide +kernel
theorem d_MD_yOf_7 : decode Y_MD_yOf.2.1 7 = .ok (.aload_n 0, 1) := by decide +kernel
theorem d_MD_yOf_8 : decode Y_MD_yOf.2.1 8 = .ok (.iload_n 1, 1) := by decide +kernel
theorem d_MD_yOf_9 : decode Y_MD_yOf.2.1 9 = .ok (.bipush (6), 2) := by decide +kernel
theorem d_MD_yOf_11 : decode Y_MD_yOf.2.1 11 = .ok (.invokestatic 45, 3) := by decide +kernel
theorem d_MD_yOf_14 : decode Y_MD_yOf.2.1 14 = .ok (.istore_n 3, 1) := by decide +kernel
theorem d_MD_yOf_15 : decode Y_MD_yOf.2.1 15 = .ok (.iload_n 3, 1) := by decide +kernel
theorem d_MD_yOf_16 : decode Y_MD_yOf.2.1 16 = .ok (.iconst (2), 1) := by decide +kernel
theorem d_MD_yOf_17 : decode Y_MD_yOf.2.1 17 = .ok (.iload_n 2, 1) := by decide +kernel
theorem d_MD_yOf_18 : decode Y_MD_yOf.2.1 18 = .ok (.imul, 1) := by decide +kernel
theorem d_MD_yOf_19 : decode Y_MD_yOf.2.1 19 = .ok (.if_icmp .ge (8), 3) := by decide +kernel
theorem d_MD_yOf_22 : decode Y_MD_yOf.2.1 22 = .ok (.iload_n 2, 1) := by decide +kernel
theorem d_MD_yOf_23 : decode Y_MD_yOf.2.1 23 = .ok (.ineg, 1) := by decide +kernel
theorem d_MD_yOf_24 : decode Y_MD_yOf.2.1 24 = .ok (.goto (36), 3) := by decide +kernel
theorem d_MD_yOf_27 : decode Y_MD_yOf.2.1 27 = .ok (.iload_n 3, 1) := by decide +kernel
theorem d_MD_yOf_28 : decode Y_MD_yOf.2.1 28 = .ok (.iconst (4), 1) := by decide +kernel
theorem d_MD_yOf_29 : decode Y_MD_yOf.2.1 29 = .ok (.iload_n 2, 1) := by decide +kernel
theorem d_MD_yOf_30 : decode Y_MD_yOf.2.1 30 = .ok (.imul, 1) := by decide +kernel
theorem d_MD_yOf_31 : decode Y_MD_yOf.2.1 31 = .ok (.if_icmp .ge (11), 3) := by decide +kernel
theorem d_MD_yOf_34 : decode Y_MD_yOf.2.1 34 = .ok (.iload_n 3, 1) := by decide +kernel
theorem d_MD_yOf_35 : decode Y_MD_yOf.2.1 35 = .ok (.iconst (3), 1) := by decide +kernel
theorem d_MD_yOf_36 : decode Y_MD_yOf.2.1 36 = .ok (.iload_n 2, 1) := by decide +kernel
theorem d_MD_yOf_37 : decode Y_MD_yOf.2.1 37 = .ok (.imul, 1) := by decide +kernel
theorem d_MD_yOf_38 : decode Y_MD_yOf.2.1 38 = .ok (.isub, 1) := by decide +kernel
theorem d_MD_yOf_39 : decode Y_MD_yOf.2.1 39 = .ok (.goto (21), 3) := by decide +kernel
theorem d_MD_yOf_42 : decode Y_MD_yOf.2.1 42 = .ok (.iload_n 3, 1) := by decide +kernel
theorem d_MD_yOf_43 : decode Y_MD_yOf.2.1 43 = .ok (.bipush (6), 2) := by decide +kernel
theorem d_MD_yOf_45 : decode Y_MD_yOf.2.1 45 = .ok (.iload_n 2, 1) := by decide +kernel
theorem d_MD_yOf_46 : decode Y_MD_yOf.2.1 46 = .ok (.imul, 1) := by decide +kernel
theorem d_MD_yOf_47 : decode Y_MD_yOf.2.1 47 = .ok (.if_icmp .ge (7), 3) := by decide +kernel
theorem d_MD_yOf_50 : decode Y_MD_yOf.2.1 50 = .ok (.iload_n 2, 1) := by decide +kernel
theorem d_MD_yOf_51 : decode Y_MD_yOf.2.1 51 = .ok (.goto (9), 3) := by decide +kernel
theorem d_MD_yOf_54 : decode Y_MD_yOf.2.1 54 = .ok (.bipush (7), 2) := by decide +kernel
theorem d_MD_yOf_56 : decode Y_MD_yOf.2.1 56 = .ok (.iload_n 2, 1) := by decide +kernel
theorem d_MD_yOf_57 : decode Y_MD_yOf.2.1 57 = .ok (.imul, 1) := by decide +kernel
theorem d_MD_yOf_58 : decode Y_MD_yOf.2.1 58 = .ok (.iload_n 3, 1) := by decide +kernel
theorem d_MD_yOf_59 : decode Y_MD_yOf.2.1 59 = .ok (.isub, 1) := by decide +kernel
theorem d_MD_yOf_60 : decode Y_MD_yOf.2.1 60 = .ok (.istore 4, 2) := by decide +kernel
theorem d_MD_yOf_62 : decode Y_MD_yOf.2.1 62 = .ok (.aload_n 0, 1) := by decide +kernel
theorem d_MD_yOf_63 : decode Y_MD_yOf.2.1 63 = .ok (.iload_n 1, 1) := by decide +kernel
theorem d_MD_yOf_64 : decode Y_MD_yOf.2.1 64 = .ok (.iconst (1), 1) := by decide +kernel
theorem d_MD_yOf_65 : decode Y_MD_yOf.2.1 65 = .ok (.invokestatic 45, 3) := by decide +kernel
theorem d_MD_yOf_68 : decode Y_MD_yOf.2.1 68 = .ok (.iload 4, 2) := by decide +kernel
theorem d_MD_yOf_70 : decode Y_MD_yOf.2.1 70 = .ok (.iadd, 1) := by decide +kernel
theorem d_MD_yOf_71 : decode Y_MD_yOf.2.1 71 = .ok (.ireturn, 1) := by decide +kernel
def f_MD_yOf (w : zW) (D : zD) (r0 : Nat) (x1 : Int32) : Option (Int32 × zD) := zjp (fun (s0 : Int32) (D1 : zD) => zci (f_MD_ofSiren w D1 r0 x1 (1 : Int32)) (fun v2 D3 => some (v2 + s0, D3))) (fun j60 => zci (f_MD_ofSiren w D r0 x1 (2 : Int32)) (fun v4 D5 => zci (f_MD_ofSiren w D5 r0 x1 (6 : Int32)) (fun v6 D7 => (if ((2 : Int32) * v4) ≤ v6 then (if ((4 : Int32) * v4) ≤ v6 then (if ((6 : Int32) * v4) ≤ v6 then j60 (((7 : Int32) * v4) - v6) D7 else j60 v4 D7) else j60 (v6 - ((3 : Int32) * v4)) D7) else j60 (-v4) D7))))
set_option maxHeartbeats 4000000 in
set_option maxRecDepth 100000 in
theorem c_MD_yOf (z : zT) (D : zD) (r0 : Nat) (x1 : Int32) : zM Y_MD_yOf 2 0 0 (zqI z) (f_MD_yOf z.2 D r0 x1) [.ref r0, .int x1] z D := by
  refine zM_of (plainFor_of_name (by decide +kernel)) rfl (Nat.le_of_ble_eq_true rfl) (fun _ _ _ _ h => nomatch h.1) (fun K => ?_)
  unfold f_MD_yOf
  refine z_jp (fun j60 : Int32 → zD → Option (Int32 × zD) => ∀ (s0 : Int32) (D1 : zD), zGO K Y_MD_yOf 2 0 0 (zqI z) (j60 s0 D1) 0 0 z D1 60 [(0, .ref r0), (1, .int x1)] [.int s0]) (fun s0 D1 => ?_) (fun j60 h60 => ?_)
  · refine z_istore (pc := 60) d_MD_yOf_60 (by decide) (lv' := [(4, .int s0), (0, .ref r0), (1, .int x1)]) rfl ?_
    refine z_aload_n (pc := 62) d_MD_yOf_62 rfl 1 rfl ?_
    refine z_iload_n (pc := 63) d_MD_yOf_63 rfl 2 rfl ?_
    refine z_iconst (pc := 64) d_MD_yOf_64 ki_1 ?_
    refine z_callSi (pc := 65) [.ref r0, .int x1, .int (1 : Int32)] lkS_MD_45 (c_MD_ofSiren z D1 r0 x1 (1 : Int32)) (by decide) rfl rfl (Nat.le_of_ble_eq_true rfl) d_MD_yOf_65 (fun v2 D3 => ?_)
    refine z_iload (pc := 68) d_MD_yOf_68 0 rfl ?_
    refine z_iadd (pc := 70) d_MD_yOf_70 ?_
    exact z_iret (pc := 71) d_MD_yOf_71 rfl
  · refine z_aload_n (pc := 0) d_MD_yOf_0 rfl 0 rfl ?_
    refine z_iload_n (pc := 1) d_MD_yOf_1 rfl 1 rfl ?_
    refine z_iconst (pc := 2) d_MD_yOf_2 ki_2 ?_
    refine z_callSi (pc := 3) [.ref r0, .int x1, .int (2 : Int32)] lkS_MD_45 (c_MD_ofSiren z D r0 x1 (2 : Int32)) (by decide) rfl rfl (Nat.le_of_ble_eq_true rfl) d_MD_yOf_3 (fun v4 D5 => ?_)
    refine z_istore_n (pc := 6) d_MD_yOf_6 rfl (by decide) (lv' := [(2, .int v4), (0, .ref r0), (1, .int x1)]) rfl ?_
    refine z_aload_n (pc := 7) d_MD_yOf_7 rfl 1 rfl ?_
    refine z_iload_n (pc := 8) d_MD_yOf_8 rfl 2 rfl ?_
    refine z_bipush (pc := 9) d_MD_yOf_9 kb_6 ?_
    refine z_callSi (pc := 11) [.ref r0, .int x1, .int (6 : Int32)] lkS_MD_45 (c_MD_ofSiren z D5 r0 x1 (6 : Int32)) (by decide) rfl rfl (Nat.le_of_ble_eq_true rfl) d_MD_yOf_11 (fun v6 D7 => ?_)
    refine z_istore_n (pc := 14) d_MD_yOf_14 rfl (by decide) (lv' := [(3, .int v6), (2, .int v4), (0, .ref r0), (1, .int x1)]) rfl ?_
    refine z_iload_n (pc := 15) d_MD_yOf_15 rfl 0 rfl ?_
    refine z_iconst (pc := 16) d_MD_yOf_16 ki_2 ?_
    refine z_iload_n (pc := 17) d_MD_yOf_17 rfl 1 rfl ?_
    refine z_imul (pc := 18) d_MD_yOf_18 ?_
    refine z_icmp_ge (pc := 19) (tgt := 27) d_MD_yOf_19 (by decide) ?_ ?_
    · refine z_iload_n (pc := 27) d_MD_yOf_27 rfl 0 rfl ?_
      refine z_iconst (pc := 28) d_MD_yOf_28 ki_4 ?_
      refine z_iload_n (pc := 29) d_MD_yOf_29 rfl 1 rfl ?_
      refine z_imul (pc := 30) d_MD_yOf_30 ?_
      refine z_icmp_ge (pc := 31) (tgt := 42) d_MD_yOf_31 (by decide) ?_ ?_
      · refine z_iload_n (pc := 42) d_MD_yOf_42 rfl 0 rfl ?_
        refine z_bipush (pc := 43) d_MD_yOf_43 kb_6 ?_
        refine z_iload_n (pc := 45) d_MD_yOf_45 rfl 1 rfl ?_
        refine z_imul (pc := 46) d_MD_yOf_46 ?_
        refine z_icmp_ge (pc := 47) (tgt := 54) d_MD_yOf_47 (by decide) ?_ ?_
        · refine z_bipush (pc := 54) d_MD_yOf_54 kb_7 ?_
          refine z_iload_n (pc := 56) d_MD_yOf_56 rfl 1 rfl ?_
          refine z_imul (pc := 57) d_MD_yOf_57 ?_
          refine z_iload_n (pc := 58) d_MD_yOf_58 rfl 0 rfl ?_
          refine z_isub (pc := 59) d_MD_yOf_59 ?_
          exact z_sub [2, 3] rfl (h60 (((7 : Int32) * v4) - v6) D7)
        · refine z_iload_n (pc := 50) d_MD_yOf_50 rfl 1 rfl ?_
          refine z_goto (pc := 51) (tgt := 60) d_MD_yOf_51 (by decide) ?_
          exact z_sub [2, 3] rfl (h60 v4 D7)
      · refine z_iload_n (pc := 34) d_MD_yOf_34 rfl 0 rfl ?_
        refine z_iconst (pc := 35) d_MD_yOf_35 ki_3 ?_
        refine z_iload_n (pc := 36) d_MD_yOf_36 rfl 1 rfl ?_
        refine z_imul (pc := 37) d_MD_yOf_37 ?_
        refine z_isub (pc := 38) d_MD_yOf_38 ?_
        refine z_goto (pc := 39) (tgt := 60) d_MD_yOf_39 (by decide) ?_
        exact z_sub [2, 3] rfl (h60 (v6 - ((3 : Int32) * v4)) D7)
    · refine z_iload_n (pc := 22) d_MD_yOf_22 rfl 1 rfl ?_
      refine z_ineg (pc := 23) d_MD_yOf_23 ?_
      refine z_goto (pc := 24) (tgt := 60) d_MD_yOf_24 (by decide) ?_
      exact z_sub [2, 3] rfl (h60 (-v4) D7)
theorem d_MD_give_0 : decode Y_MD_give.2.1 0 = .ok (.aload_n 0, 1) := by decide +kernel
theorem d_MD_give_1 : decode Y_MD_give.2.1 1 = .ok (.iconst (4), 1) := by decide +kernel
theorem d_MD_give_2 : decode Y_MD_give.2.1 2 = .ok (.iaload, 1) := by decide +kernel
theorem d_MD_give_3 : decode Y_MD_give.2.1 3 = .ok (.bipush (60), 2) := by decide +kernel
theorem d_MD_give_5 : decode Y_MD_give.2.1 5 = .ok (.if_icmp .ne (8), 3) := by decide +kernel
theorem d_MD_give_8 : decode Y_MD_give.2.1 8 = .ok (.aload_n 0, 1) := by decide +kernel
theorem d_MD_give_9 : decode Y_MD_give.2.1 9 = .ok (.iconst (0), 1) := by decide +kernel
theorem d_MD_give_10 : decode Y_MD_give.2.1 10 = .ok (.invokestatic 53, 3) := by decide +kernel
theorem d_MD_give_13 : decode Y_MD_give.2.1 13 = .ok (.sipush (161), 3) := by decide +kernel
theorem d_MD_give_16 : decode Y_MD_give.2.1 16 = .ok (.bipush (6), 2) := by decide +kernel
theorem d_MD_give_18 : decode Y_MD_give.2.1 18 = .ok (.aload_n 0, 1) := by decide +kernel
theorem d_MD_give_19 : decode Y_MD_give.2.1 19 = .ok (.iconst (4), 1) := by decide +kernel
theorem d_MD_give_20 : decode Y_MD_give.2.1 20 = .ok (.iaload, 1) := by decide +kernel
theorem d_MD_give_21 : decode Y_MD_give.2.1 21 = .ok (.imul, 1) := by decide +kernel
theorem d_MD_give_22 : decode Y_MD_give.2.1 22 = .ok (.iadd, 1) := by decide +kernel
theorem d_MD_give_23 : decode Y_MD_give.2.1 23 = .ok (.istore 5, 2) := by decide +kernel
theorem d_MD_give_25 : decode Y_MD_give.2.1 25 = .ok (.aload_n 0, 1) := by decide +kernel
theorem d_MD_give_26 : decode Y_MD_give.2.1 26 = .ok (.iload 5, 2) := by decide +kernel
theorem d_MD_give_28 : decode Y_MD_give.2.1 28 = .ok (.iload_n 1, 1) := by decide +kernel
theorem d_MD_give_29 : decode Y_MD_give.2.1 29 = .ok (.iastore, 1) := by decide +kernel
theorem d_MD_give_30 : decode Y_MD_give.2.1 30 = .ok (.aload_n 0, 1) := by decide +kernel
theorem d_MD_give_31 : decode Y_MD_give.2.1 31 = .ok (.iload 5, 2) := by decide +kernel
theorem d_MD_give_33 : decode Y_MD_give.2.1 33 = .ok (.iconst (1), 1) := by decide +kernel
theorem d_MD_give_34 : decode Y_MD_give.2.1 34 = .ok (.iadd, 1) := by decide +kernel
theorem d_MD_give_35 : decode Y_MD_give.2.1 35 = .ok (.iload_n 2, 1) := by decide +kernel
theorem d_MD_give_36 : decode Y_MD_give.2.1 36 = .ok (.iastore, 1) := by decide +kernel
theorem d_MD_give_37 : decode Y_MD_give.2.1 37 = .ok (.aload_n 0, 1) := by decide +kernel
theorem d_MD_give_38 : decode Y_MD_give.2.1 38 = .ok (.iload 5, 2) := by decide +kernel
theorem d_MD_give_40 : decode Y_MD_give.2.1 40 = .ok (.iconst (2), 1) := by decide +kernel
theorem d_MD_give_41 : decode Y_MD_give.2.1 41 = .ok (.iadd, 1) := by decide +kernel
theorem d_MD_give_42 : decode Y_MD_give.2.1 42 = .ok (.iload_n 3, 1) := by decide +kernel
theorem d_MD_give_43 : decode Y_MD_give.2.1 43 = .ok (.iastore, 1) := by decide +kernel
theorem d_MD_give_44 : decode Y_MD_give.2.1 44 = .ok (.aload_n 0, 1) := by decide +kernel
theorem d_MD_give_45 : decode Y_MD_give.2.1 45 = .ok (.iload 5, 2) := by decide +kernel
theorem d_MD_give_47 : decode Y_MD_give.2.1 47 = .ok (.iconst (3), 1) := by decide +kernel
theorem d_MD_give_48 : decode Y_MD_give.2.1 48 = .ok (.iadd, 1) := by decide +kernel
theorem d_MD_give_49 : decode Y_MD_give.2.1 49 = .ok (.aload_n 0, 1) := by decide +kernel
theorem d_MD_give_50 : decode Y_MD_give.2.1 50 = .ok (.iconst (3), 1) := by decide +kernel
theorem d_MD_give_51 : decode Y_MD_give.2.1 51 = .ok (.iaload, 1) := by decide +kernel
theorem d_MD_give_52 : decode Y_MD_give.2.1 52 = .ok (.iastore, 1) := by decide +kernel
theorem d_MD_give_53 : decode Y_MD_give.2.1 53 = .ok (.aload_n 0, 1) := by decide +kernel
theorem d_MD_give_54 : decode Y_MD_give.2.1 54 = .ok (.iload 5, 2) := by decide +kernel
theorem d_MD_give_56 : decode Y_MD_give.2.1 56 = .ok (.iconst (4), 1) := by decide +kernel
theorem d_MD_give_57 : decode Y_MD_give.2.1 57 = .ok (.iadd, 1) := by decide +kernel
theorem d_MD_give_58 : decode Y_MD_give.2.1 58 = .ok (.iload 4, 2) := by decide +kernel
theorem d_MD_give_60 : decode Y_MD_give.2.1 60 = .ok (.iastore, 1) := by decide +kernel
theorem d_MD_give_61 : decode Y_MD_give.2.1 61 = .ok (.aload_n 0, 1) := by decide +kernel
theorem d_MD_give_62 : decode Y_MD_give.2.1 62 = .ok (.iload 5, 2) := by decide +kernel
theorem d_MD_give_64 : decode Y_MD_give.2.1 64 = .ok (.iconst (5), 1) := by decide +kernel
theorem d_MD_give_65 : decode Y_MD_give.2.1 65 = .ok (.iadd, 1) := by decide +kernel
theorem d_MD_give_66 : decode Y_MD_give.2.1 66 = .ok (.iconst (0), 1) := by decide +kernel
theorem d_MD_give_67 : decode Y_MD_give.2.1 67 = .ok (.iastore, 1) := by decide +kernel
theorem d_MD_give_68 : decode Y_MD_give.2.1 68 = .ok (.aload_n 0, 1) := by decide +kernel
theorem d_MD_give_69 : decode Y_MD_give.2.1 69 = .ok (.iconst (4), 1) := by decide +kernel
theorem d_MD_give_70 : decode Y_MD_give.2.1 70 = .ok (.dup2, 1) := by decide +kernel
theorem d_MD_give_71 : decode Y_MD_give.2.1 71 = .ok (.iaload, 1) := by decide +kernel
theorem d_MD_give_72 : decode Y_MD_give.2.1 72 = .ok (.iconst (1), 1) := by decide +kernel
theorem d_MD_give_73 : decode Y_MD_give.2.1 73 = .ok (.iadd, 1) := by decide +kernel
theorem d_MD_give_74 : decode Y_MD_give.2.1 74 = .ok (.iastore, 1) := by decide +kernel
theorem d_MD_give_75 : decode Y_MD_give.2.1 75 = .ok (.aload_n 0, 1) := by decide +kernel
theorem d_MD_give_76 : decode Y_MD_give.2.1 76 = .ok (.iconst (5), 1) := by decide +kernel
theorem d_MD_give_77 : decode Y_MD_give.2.1 77 = .ok (.dup2, 1) := by decide +kernel
theorem d_MD_give_78 : decode Y_MD_give.2.1 78 = .ok (.iaload, 1) := by decide +kernel
theorem d_MD_give_79 : decode Y_MD_give.2.1 79 = .ok (.iconst (1), 1) := by decide +kernel
theorem d_MD_give_80 : decode Y_MD_give.2.1 80 = .ok (.iadd, 1) := by decide +kernel
theorem d_MD_give_81 : decode Y_MD_give.2.1 81 = .ok (.iastore, 1) := by decide +kernel
theorem d_MD_give_82 : decode Y_MD_give.2.1 82 = .ok (.return_, 1) := by decide +kernel
def f_MD_give (w : zW) (D : zD) (r0 : Nat) (x1 : Int32) (x2 : Int32) (x3 : Int32) (x4 : Int32) : Option (zD) := zjp (fun (D1 : zD) => zald w D1 0 r0 (4 : Int32) (fun v2 => zlet ((161 : Int32) + ((6 : Int32) * v2)) (fun v3 => zast w D1 0 r0 v3 x1 (fun D4 => zast w D4 0 r0 (v3 + (1 : Int32)) x2 (fun D5 => zast w D5 0 r0 (v3 + (2 : Int32)) x3 (fun D6 => zald w D6 0 r0 (3 : Int32) (fun v7 => zast w D6 0 r0 (v3 + (3 : Int32)) v7 (fun D8 => zast w D8 0 r0 (v3 + (4 : Int32)) x4 (fun D9 => zast w D9 0 r0 (v3 + (5 : Int32)) (0 : Int32) (fun D10 => zald w D10 0 r0 (4 : Int32) (fun v11 => zast w D10 0 r0 (4 : Int32) (v11 + (1 : Int32)) (fun D12 => zald w D12 0 r0 (5 : Int32) (fun v13 => zast w D12 0 r0 (5 : Int32) (v13 + (1 : Int32)) (fun D14 => some D14)))))))))))))) (fun j13 => zald w D 0 r0 (4 : Int32) (fun v15 => (if v15 = (60 : Int32) then zcv (f_MD_dropPulse w D r0 (0 : Int32)) (fun D16 => j13 D16) else j13 D)))
set_option maxHeartbeats 4000000 in
set_option maxRecDepth 100000 in
theorem c_MD_give (z : zT) (D : zD) (r0 : Nat) (x1 : Int32) (x2 : Int32) (x3 : Int32) (x4 : Int32) : zM Y_MD_give 2 0 0 (zqV z) (f_MD_give z.2 D r0 x1 x2 x3 x4) [.ref r0, .int x1, .int x2, .int x3, .int x4] z D := by
  refine zM_of (plainFor_of_name (by decide +kernel)) rfl (Nat.le_of_ble_eq_true rfl) (fun _ _ _ _ h => nomatch h.1) (fun K => ?_)
  unfold f_MD_give
  refine z_jp (fun j13 : zD → Option (zD) => ∀ (D1 : zD), zGO K Y_MD_give 2 0 0 (zqV z) (j13  D1) 0 0 z D1 13 [(0, .ref r0), (1, .int x1), (2, .int x2), (3, .int x3), (4, .int x4)] []) (fun  D1 => ?_) (fun j13 h13 => ?_)
  · refine z_sipush (pc := 13) d_MD_give_13 ks_161 ?_
    refine z_bipush (pc := 16) d_MD_give_16 kb_6 ?_
    refine z_aload_n (pc := 18) d_MD_give_18 rfl 0 rfl ?_
    refine z_iconst (pc := 19) d_MD_give_19 ki_4 ?_
    refine z_iaload (pc := 20) d_MD_give_20 (fun v2 => ?_)
    refine z_imul (pc := 21) d_MD_give_21 ?_
    refine z_iadd (pc := 22) d_MD_give_22 ?_
    refine z_leti (fun v3 => ?_)
    refine z_istore (pc := 23) d_MD_give_23 (by decide) (lv' := [(5, .int v3), (0, .ref r0), (1, .int x1), (2, .int x2), (3, .int x3), (4, .int x4)]) rfl ?_
    refine z_aload_n (pc := 25) d_MD_give_25 rfl 1 rfl ?_
    refine z_iload (pc := 26) d_MD_give_26 0 rfl ?_
    refine z_iload_n (pc := 28) d_MD_give_28 rfl 2 rfl ?_
    refine z_iastore (pc := 29) d_MD_give_29 (fun D4 => ?_)
    refine z_aload_n (pc := 30) d_MD_give_30 rfl 1 rfl ?_
    refine z_iload (pc := 31) d_MD_give_31 0 rfl ?_
    refine z_iconst (pc := 33) d_MD_give_33 ki_1 ?_
    refine z_iadd (pc := 34) d_MD_give_34 ?_
    refine z_iload_n (pc := 35) d_MD_give_35 rfl 3 rfl ?_
    refine z_iastore (pc := 36) d_MD_give_36 (fun D5 => ?_)
    refine z_aload_n (pc := 37) d_MD_give_37 rfl 1 rfl ?_
    refine z_iload (pc := 38) d_MD_give_38 0 rfl ?_
    refine z_iconst (pc := 40) d_MD_give_40 ki_2 ?_
    refine z_iadd (pc := 41) d_MD_give_41 ?_
    refine z_iload_n (pc := 42) d_MD_give_42 rfl 4 rfl ?_
    refine z_iastore (pc := 43) d_MD_give_43 (fun D6 => ?_)
    refine z_aload_n (pc := 44) d_MD_give_44 rfl 1 rfl ?_
    refine z_iload (pc := 45) d_MD_give_45 0 rfl ?_
    refine z_iconst (pc := 47) d_MD_give_47 ki_3 ?_
    refine z_iadd (pc := 48) d_MD_give_48 ?_
    refine z_aload_n (pc := 49) d_MD_give_49 rfl 1 rfl ?_
    refine z_iconst (pc := 50) d_MD_give_50 ki_3 ?_
    refine z_iaload (pc := 51) d_MD_give_51 (fun v7 => ?_)
    refine z_iastore (pc := 52) d_MD_give_52 (fun D8 => ?_)
    refine z_aload_n (pc := 53) d_MD_give_53 rfl 1 rfl ?_
    refine z_iload (pc := 54) d_MD_give_54 0 rfl ?_
    refine z_iconst (pc := 56) d_MD_give_56 ki_4 ?_
    refine z_iadd (pc := 57) d_MD_give_57 ?_
    refine z_iload (pc := 58) d_MD_give_58 5 rfl ?_
    refine z_iastore (pc := 60) d_MD_give_60 (fun D9 => ?_)
    refine z_aload_n (pc := 61) d_MD_give_61 rfl 1 rfl ?_
    refine z_iload (pc := 62) d_MD_give_62 0 rfl ?_
    refine z_iconst (pc := 64) d_MD_give_64 ki_5 ?_
    refine z_iadd (pc := 65) d_MD_give_65 ?_
    refine z_iconst (pc := 66) d_MD_give_66 ki_0 ?_
    refine z_iastore (pc := 67) d_MD_give_67 (fun D10 => ?_)
    refine z_aload_n (pc := 68) d_MD_give_68 rfl 1 rfl ?_
    refine z_iconst (pc := 69) d_MD_give_69 ki_4 ?_
    refine z_dup2 (pc := 70) d_MD_give_70 rfl rfl ?_
    refine z_iaload (pc := 71) d_MD_give_71 (fun v11 => ?_)
    refine z_iconst (pc := 72) d_MD_give_72 ki_1 ?_
    refine z_iadd (pc := 73) d_MD_give_73 ?_
    refine z_iastore (pc := 74) d_MD_give_74 (fun D12 => ?_)
    refine z_aload_n (pc := 75) d_MD_give_75 rfl 1 rfl ?_
    refine z_iconst (pc := 76) d_MD_give_76 ki_5 ?_
    refine z_dup2 (pc := 77) d_MD_give_77 rfl rfl ?_
    refine z_iaload (pc := 78) d_MD_give_78 (fun v13 => ?_)
    refine z_iconst (pc := 79) d_MD_give_79 ki_1 ?_
    refine z_iadd (pc := 80) d_MD_give_80 ?_
    refine z_iastore (pc := 81) d_MD_give_81 (fun D14 => ?_)
    exact z_vret (pc := 82) d_MD_give_82 rfl
  · refine z_aload_n (pc := 0) d_MD_give_0 rfl 0 rfl ?_
    refine z_iconst (pc := 1) d_MD_give_1 ki_4 ?_
    refine z_iaload (pc := 2) d_MD_give_2 (fun v15 => ?_)
    refine z_bipush (pc := 3) d_MD_give_3 kb_60 ?_
    refine z_icmp_ne (pc := 5) (tgt := 13) d_MD_give_5 (by decide) ?_ ?_
    · refine z_aload_n (pc := 8) d_MD_give_8 rfl 0 rfl ?_
      refine z_iconst (pc := 9) d_MD_give_9 ki_0 ?_
      refine z_callSv (pc := 10) [.ref r0, .int (0 : Int32)] lkS_MD_53 (c_MD_dropPulse z D r0 (0 : Int32)) (by decide) rfl rfl (Nat.le_of_ble_eq_true rfl) d_MD_give_10 (fun D16 => ?_)
      exact z_sub [0, 1, 2, 3, 4] rfl (h13 D16)
    · exact z_sub [0, 1, 2, 3, 4] rfl (h13 D)
theorem d_MD_isReached_0 : decode Y_MD_isReached.2.1 0 = .ok (.aload_n 0, 1) := by decide +kernel
theorem d_MD_isReached_1 : decode Y_MD_isReached.2.1 1 = .ok (.iload_n 1, 1) := by decide +kernel
theorem d_MD_isReached_2 : decode Y_MD_isReached.2.1 2 = .ok (.iconst (1), 1) := by decide +kernel
theorem d_MD_isReached_3 : decode Y_MD_isReached.2.1 3 = .ok (.invokestatic 67, 3) := by decide +kernel
theorem d_MD_isReached_6 : decode Y_MD_isReached.2.1 6 = .ok (.aload_n 0, 1) := by decide +kernel
theorem d_MD_isReached_7 : decode Y_MD_isReached.2.1 7 = .ok (.iload_n 2, 1) := by decide +kernel
theorem d_MD_isReached_8 : decode Y_MD_isReached.2.1 8 = .ok (.iconst (0), 1) := by decide +kernel
theorem d_MD_isReached_9 : decode Y_MD_isReached.2.1 9 = .ok (.invokestatic 70, 3) := by decide +kernel
theorem d_MD_isReached_12 : decode Y_MD_isReached.2.1 12 = .ok (.isub, 1) := by decide +kernel
theorem d_MD_isReached_13 : decode Y_MD_isReached.2.1 13 = .ok (.invokestatic 73, 3) := by decide +kernel
theorem d_MD_isReached_16 : decode Y_MD_isReached.2.1 16 = .ok (.aload_n 0, 1) := by decide +kernel
theorem d_MD_isReached_17 : decode Y_MD_isReached.2.1 17 = .ok (.iload_n 1, 1) := by decide +kernel
theorem d_MD_isReached_18 : decode Y_MD_isReached.2.1 18 = .ok (.iconst (2), 1) := by decide +kernel
theorem d_MD_isReached_19 : decode Y_MD_isReached.2.1 19 = .ok (.invokestatic 67, 3) := by decide +kernel
theorem d_MD_isReached_22 : decode Y_MD_isReached.2.1 22 = .ok (.aload_n 0, 1) := by decide +kernel
theorem d_MD_isReached_23 : decode Y_MD_isReached.2.1 23 = .ok (.iload_n 2, 1) := by decide +kernel
theorem d_MD_isReached_24 : decode Y_MD_isReached.2.1 24 = .ok (.iconst (1), 1) := by decide +kernel
theorem d_MD_isReached_25 : decode Y_MD_isReached.2.1 25 = .ok (.invokestatic 70, 3) := by decide +kernel
theorem d_MD_isReached_28 : decode Y_MD_isReached.2.1 28 = .ok (.isub, 1) := by decide +kernel
theorem d_MD_isReached_29 : decode Y_MD_isReached.2.1 29 = .ok (.invokestatic 73, 3) := by decide +kernel
theorem d_MD_isReached_32 : decode Y_MD_isReached.2.1 32 = .ok (.iadd, 1) := by decide +kernel
theorem d_MD_isReached_33 : decode Y_MD_isReached.2.1 33 = .ok (.istore_n 3, 1) := by decide +kernel
theorem d_MD_isReached_34 : decode Y_MD_isReached.2.1 34 = .ok (.iload_n 3, 1) := by decide +kernel
theorem d_MD_isReached_35 : decode Y_MD_isReached.2.1 35 = .ok (.aload_n 0, 1) := by decide +kernel
theorem d_MD_isReached_36 : decode Y_MD_isReached.2.1 36 = .ok (.bipush (9), 2) := by decide +kernel
theorem d_MD_isReached_38 : decode Y_MD_isReached.2.1 38 = .ok (.iaload, 1) := by decide +kernel
theorem d_MD_isReached_39 : decode Y_MD_isReached.2.1 39 = .ok (.aload_n 0, 1) := by decide +kernel
theorem d_MD_isReached_40 : decode Y_MD_isReached.2.1 40 = .ok (.iconst (3), 1) := by decide +kernel
theorem d_MD_isReached_41 : decode Y_MD_isReached.2.1 41 = .ok (.iaload, 1) := by decide +kernel
theorem d_MD_isReached_42 : decode Y_MD_isReached.2.1 42 = .ok (.aload_n 0, 1) := by decide +kernel
theorem d_MD_isReached_43 : decode Y_MD_isReached.2.1 43 = .ok (.iload_n 1, 1) := by decide +kernel
theorem d_MD_isReached_44 : decode Y_MD_isReached.2.1 44 = .ok (.iconst (3), 1) := by decide +kernel
theorem d_MD_isReached_45 : decode Y_MD_isReached.2.1 45 = .ok (.invokestatic 67, 3) := by decide +kernel
theorem d_MD_isReached_48 : decode Y_MD_isReached.2.1 48 = .ok (.isub, 1) := by decide +kernel
theorem d_MD_isReached_49 : decode Y_MD_isReached.2.1 49 = .ok (.imul, 1) := by decide +kernel
theorem d_MD_isReached_50 : decode Y_MD_isReached.2.1 50 = .ok (.if_icmp .gt (7), 3) := by decide +kernel
theorem d_MD_isReached_53 : decode Y_MD_isReached.2.1 53 = .ok (.iconst (1), 1) := by decide +kernel
theorem d_MD_isReached_54 : decode Y_MD_isReached.2.1 54 = .ok (.goto (4), 3) := by decide +kernel
theorem d_MD_isReached_57 : decode Y_MD_isReached.2.1 57 = .ok (.iconst (0), 1) := by decide +kernel
theorem d_MD_isReached_58 : decode Y_MD_isReached.2.1 58 = .ok (.ireturn, 1) := by decide +kernel
def f_MD_isReached (w : zW) (D : zD) (r0 : Nat) (x1 : Int32) (x2 : Int32) : Option (Int32 × zD) := zjp (fun (s0 : Int32) (D1 : zD) => zchk (s0 = 0 ∨ s0 = 1) (some (s0, D1))) (fun j58 => zci (f_MD_pulseAt w D r0 x1 (1 : Int32)) (fun v2 D3 => zci (f_MD_ofHearer w D3 r0 x2 (0 : Int32)) (fun v4 D5 => zci (f_MD_without w D5 (v2 - v4)) (fun v6 D7 => zci (f_MD_pulseAt w D7 r0 x1 (2 : Int32)) (fun v8 D9 => zci (f_MD_ofHearer w D9 r0 x2 (1 : Int32)) (fun v10 D11 => zci (f_MD_without w D11 (v8 - v10)) (fun v12 D13 => zlet (v6 + v12) (fun v14 => zald w D13 0 r0 (9 : Int32) (fun v15 => zald w D13 0 r0 (3 : Int32) (fun v16 => zci (f_MD_pulseAt w D13 r0 x1 (3 : Int32)) (fun v17 D18 => (if (v15 * (v16 - v17)) < v14 then j58 (0 : Int32) D18 else j58 (1 : Int32) D18))))))))))))
set_option maxHeartbeats 4000000 in
set_option maxRecDepth 100000 in
theorem c_MD_isReached (z : zT) (D : zD) (r0 : Nat) (x1 : Int32) (x2 : Int32) : zM Y_MD_isReached 2 0 0 (zqI z) (f_MD_isReached z.2 D r0 x1 x2) [.ref r0, .int x1, .int x2] z D := by
  refine zM_of (plainFor_of_name (by decide +kernel)) rfl (Nat.le_of_ble_eq_true rfl) (fun _ _ _ _ h => nomatch h.1) (fun K => ?_)
  unfold f_MD_isReached
  refine z_jp (fun j58 : Int32 → zD → Option (Int32 × zD) => ∀ (s0 : Int32) (D1 : zD), zGO K Y_MD_isReached 2 0 0 (zqI z) (j58 s0 D1) 0 0 z D1 58 [] [.int s0]) (fun s0 D1 => ?_) (fun j58 h58 => ?_)
  · exact z_zret (pc := 58) d_MD_isReached_58 rfl
  · refine z_aload_n (pc := 0) d_MD_isReached_0 rfl 0 rfl ?_
    refine z_iload_n (pc := 1) d_MD_isReached_1 rfl 1 rfl ?_
    refine z_iconst (pc := 2) d_MD_isReached_2 ki_1 ?_
    refine z_callSi (pc := 3) [.ref r0, .int x1, .int (1 : Int32)] lkS_MD_67 (c_MD_pulseAt z D r0 x1 (1 : Int32)) (by decide) rfl rfl (Nat.le_of_ble_eq_true rfl) d_MD_isReached_3 (fun v2 D3 => ?_)
    refine z_aload_n (pc := 6) d_MD_isReached_6 rfl 0 rfl ?_
    refine z_iload_n (pc := 7) d_MD_isReached_7 rfl 2 rfl ?_
    refine z_iconst (pc := 8) d_MD_isReached_8 ki_0 ?_
    refine z_callSi (pc := 9) [.ref r0, .int x2, .int (0 : Int32)] lkS_MD_70 (c_MD_ofHearer z D3 r0 x2 (0 : Int32)) (by decide) rfl rfl (Nat.le_of_ble_eq_true rfl) d_MD_isReached_9 (fun v4 D5 => ?_)
    refine z_isub (pc := 12) d_MD_isReached_12 ?_
    refine z_callSi (pc := 13) [.int (v2 - v4)] lkS_MD_73 (c_MD_without z D5 (v2 - v4)) (by decide) rfl rfl (Nat.le_of_ble_eq_true rfl) d_MD_isReached_13 (fun v6 D7 => ?_)
    refine z_aload_n (pc := 16) d_MD_isReached_16 rfl 0 rfl ?_
    refine z_iload_n (pc := 17) d_MD_isReached_17 rfl 1 rfl ?_
    refine z_iconst (pc := 18) d_MD_isReached_18 ki_2 ?_
    refine z_callSi (pc := 19) [.ref r0, .int x1, .int (2 : Int32)] lkS_MD_67 (c_MD_pulseAt z D7 r0 x1 (2 : Int32)) (by decide) rfl rfl (Nat.le_of_ble_eq_true rfl) d_MD_isReached_19 (fun v8 D9 => ?_)
    refine z_aload_n (pc := 22) d_MD_isReached_22 rfl 0 rfl ?_
    refine z_iload_n (pc := 23) d_MD_isReached_23 rfl 2 rfl ?_
    refine z_iconst (pc := 24) d_MD_isReached_24 ki_1 ?_
    refine z_callSi (pc := 25) [.ref r0, .int x2, .int (1 : Int32)] lkS_MD_70 (c_MD_ofHearer z D9 r0 x2 (1 : Int32)) (by decide) rfl rfl (Nat.le_of_ble_eq_true rfl) d_MD_isReached_25 (fun v10 D11 => ?_)
    refine z_isub (pc := 28) d_MD_isReached_28 ?_
    refine z_callSi (pc := 29) [.int (v8 - v10)] lkS_MD_73 (c_MD_without z D11 (v8 - v10)) (by decide) rfl rfl (Nat.le_of_ble_eq_true rfl) d_MD_isReached_29 (fun v12 D13 => ?_)
    refine z_iadd (pc := 32) d_MD_isReached_32 ?_
    refine z_leti (fun v14 => ?_)
    refine z_istore_n (pc := 33) d_MD_isReached_33 rfl (by decide) (lv' := [(3, .int v14), (0, .ref r0), (1, .int x1), (2, .int x2)]) rfl ?_
    refine z_iload_n (pc := 34) d_MD_isReached_34 rfl 0 rfl ?_
    refine z_aload_n (pc := 35) d_MD_isReached_35 rfl 1 rfl ?_
    refine z_bipush (pc := 36) d_MD_isReached_36 kb_9 ?_
    refine z_iaload (pc := 38) d_MD_isReached_38 (fun v15 => ?_)
    refine z_aload_n (pc := 39) d_MD_isReached_39 rfl 1 rfl ?_
    refine z_iconst (pc := 40) d_MD_isReached_40 ki_3 ?_
    refine z_iaload (pc := 41) d_MD_isReached_41 (fun v16 => ?_)
    refine z_aload_n (pc := 42) d_MD_isReached_42 rfl 1 rfl ?_
    refine z_iload_n (pc := 43) d_MD_isReached_43 rfl 2 rfl ?_
    refine z_iconst (pc := 44) d_MD_isReached_44 ki_3 ?_
    refine z_callSi (pc := 45) [.ref r0, .int x1, .int (3 : Int32)] lkS_MD_67 (c_MD_pulseAt z D13 r0 x1 (3 : Int32)) (by decide) rfl rfl (Nat.le_of_ble_eq_true rfl) d_MD_isReached_45 (fun v17 D18 => ?_)
    refine z_isub (pc := 48) d_MD_isReached_48 ?_
    refine z_imul (pc := 49) d_MD_isReached_49 ?_
    refine z_icmp_gt (pc := 50) (tgt := 57) d_MD_isReached_50 (by decide) ?_ ?_
    · refine z_iconst (pc := 57) d_MD_isReached_57 ki_0 ?_
      exact z_sub [] rfl (h58 (0 : Int32) D18)
    · refine z_iconst (pc := 53) d_MD_isReached_53 ki_1 ?_
      refine z_goto (pc := 54) (tgt := 58) d_MD_isReached_54 (by decide) ?_
      exact z_sub [] rfl (h58 (1 : Int32) D18)
theorem d_MD_isOnSide_0 : decode Y_MD_isOnSide.2.1 0 = .ok (.aload_n 0, 1) := by decide +kernel
theorem d_MD_isOnSide_1 : decode Y_MD_isOnSide.2.1 1 = .ok (.iload_n 1, 1) := by decide +kernel
theorem d_MD_isOnSide_2 : decode Y_MD_isOnSide.2.1 2 = .ok (.iconst (4), 1) := by decide +kernel
theorem d_MD_isOnSide_3 : decode Y_MD_isOnSide.2.1 3 = .ok (.invokestatic 67, 3) := by decide +kernel
theorem d_MD_isOnSide_6 : decode Y_MD_isOnSide.2.1 6 = .ok (.istore_n 3, 1) := by decide +kernel
theorem d_MD_isOnSide_7 : decode Y_MD_isOnSide.2.1 7 = .ok (.aload_n 0, 1) := by decide +kernel
theorem d_MD_isOnSide_8 : decode Y_MD_isOnSide.2.1 8 = .ok (.bipush (59), 2) := by decide +kernel
theorem d_MD_isOnSide_10 : decode Y_MD_isOnSide.2.1 10 = .ok (.iconst (2), 1) := by decide +kernel
theorem d_MD_isOnSide_11 : decode Y_MD_isOnSide.2.1 11 = .ok (.iload_n 3, 1) := by decide +kernel
theorem d_MD_isOnSide_12 : decode Y_MD_isOnSide.2.1 12 = .ok (.imul, 1) := by decide +kernel
theorem d_MD_isOnSide_13 : decode Y_MD_isOnSide.2.1 13 = .ok (.iadd, 1) := by decide +kernel
theorem d_MD_isOnSide_14 : decode Y_MD_isOnSide.2.1 14 = .ok (.iaload, 1) := by decide +kernel
theorem d_MD_isOnSide_15 : decode Y_MD_isOnSide.2.1 15 = .ok (.iconst (1), 1) := by decide +kernel
theorem d_MD_isOnSide_16 : decode Y_MD_isOnSide.2.1 16 = .ok (.if_icmp .ne (7), 3) := by decide +kernel
theorem d_MD_isOnSide_19 : decode Y_MD_isOnSide.2.1 19 = .ok (.iconst (0), 1) := by decide +kernel
theorem d_MD_isOnSide_20 : decode Y_MD_isOnSide.2.1 20 = .ok (.goto (4), 3) := by decide +kernel
theorem d_MD_isOnSide_23 : decode Y_MD_isOnSide.2.1 23 = .ok (.iconst (1), 1) := by decide +kernel
theorem d_MD_isOnSide_24 : decode Y_MD_isOnSide.2.1 24 = .ok (.istore 4, 2) := by decide +kernel
theorem d_MD_isOnSide_26 : decode Y_MD_isOnSide.2.1 26 = .ok (.aload_n 0, 1) := by decide +kernel
theorem d_MD_isOnSide_27 : decode Y_MD_isOnSide.2.1 27 = .ok (.bipush (59), 2) := by decide +kernel
theorem d_MD_isOnSide_29 : decode Y_MD_isOnSide.2.1 29 = .ok (.iconst (2), 1) := by decide +kernel
theorem d_MD_isOnSide_30 : decode Y_MD_isOnSide.2.1 30 = .ok (.iload_n 3, 1) := by decide +kernel
theorem d_MD_isOnSide_31 : decode Y_MD_isOnSide.2.1 31 = .ok (.imul, 1) := by decide +kernel
theorem d_MD_isOnSide_32 : decode Y_MD_isOnSide.2.1 32 = .ok (.iadd, 1) := by decide +kernel
theorem d_MD_isOnSide_33 : decode Y_MD_isOnSide.2.1 33 = .ok (.iconst (1), 1) := by decide +kernel
theorem d_MD_isOnSide_34 : decode Y_MD_isOnSide.2.1 34 = .ok (.iadd, 1) := by decide +kernel
theorem d_MD_isOnSide_35 : decode Y_MD_isOnSide.2.1 35 = .ok (.iaload, 1) := by decide +kernel
theorem d_MD_isOnSide_36 : decode Y_MD_isOnSide.2.1 36 = .ok (.istore 5, 2) := by decide +kernel
theorem d_MD_isOnSide_38 : decode Y_MD_isOnSide.2.1 38 = .ok (.aload_n 0, 1) := by decide +kernel
theorem d_MD_isOnSide_39 : decode Y_MD_isOnSide.2.1 39 = .ok (.iload_n 1, 1) := by decide +kernel
theorem d_MD_isOnSide_40 : decode Y_MD_isOnSide.2.1 40 = .ok (.iconst (1), 1) := by decide +kernel
theorem d_MD_isOnSide_41 : decode Y_MD_isOnSide.2.1 41 = .ok (.iload 4, 2) := by decide +kernel
theorem d_MD_isOnSide_43 : decode Y_MD_isOnSide.2.1 43 = .ok (.iadd, 1) := by decide +kernel
theorem d_MD_isOnSide_44 : decode Y_MD_isOnSide.2.1 44 = .ok (.invokestatic 67, 3) := by decide +kernel
theorem d_MD_isOnSide_47 : decode Y_MD_isOnSide.2.1 47 = .ok (.iload 5, 2) := by decide +kernel
theorem d_MD_isOnSide_49 : decode Y_MD_isOnSide.2.1 49 = .ok (.isub, 1) := by decide +kernel
theorem d_MD_isOnSide_50 : decode Y_MD_isOnSide.2.1 50 = .ok (.istore 6, 2) := by decide +kernel
theorem d_MD_isOnSide_52 : decode Y_MD_isOnSide.2.1 52 = .ok (.aload_n 0, 1) := by decide +kernel
theorem d_MD_isOnSide_53 : decode Y_MD_isOnSide.2.1 53 = .ok (.iload_n 2, 1) := by decide +kernel
theorem d_MD_isOnSide_54 : decode Y_MD_isOnSide.2.1 54 = .ok (.iload 4, 2) := by decide +kernel
theorem d_MD_isOnSide_56 : decode Y_MD_isOnSide.2.1 56 = .ok (.invokestatic 70, 3) := by decide +kernel
theorem d_MD_isOnSide_59 : decode Y_MD_isOnSide.2.1 59 = .ok (.iload 5, 2) := by decide +kernel
theorem d_MD_isOnSide_61 : decode Y_MD_isOnSide.2.1 61 = .ok (.isub, 1) := by decide +kernel
theorem d_MD_isOnSide_62 : decode Y_MD_isOnSide.2.1 62 = .ok (.istore 7, 2) := by decide +kernel
theorem d_MD_isOnSide_64 : decode Y_MD_isOnSide.2.1 64 = .ok (.iload 6, 2) := by decide +kernel
theorem d_MD_isOnSide_66 : decode Y_MD_isOnSide.2.1 66 = .ok (.ifCond .ge (8), 3) := by decide +kernel
theorem d_MD_isOnSide_69 : decode Y_MD_isOnSide.2.1 69 = .ok (.iload 7, 2) := by decide +kernel
theorem d_MD_isOnSide_71 : decode Y_MD_isOnSide.2.1 71 = .ok (.ifCond .gt (13), 3) := by decide +kernel
theorem d_MD_isOnSide_74 : decode Y_MD_isOnSide.2.1 74 = .ok (.iload 6, 2) := by decide +kernel
theorem d_MD_isOnSide_76 : decode Y_MD_isOnSide.2.1 76 = .ok (.ifCond .le (12), 3) := by decide +kernel
theorem d_MD_isOnSide_79 : decode Y_MD_isOnSide.2.1 79 = .ok (.iload 7, 2) := by decide +kernel
theorem d_MD_isOnSide_81 : decode Y_MD_isOnSide.2.1 81 = .ok (.ifCond .ge (7), 3) := by decide +kernel
theorem d_MD_isOnSide_84 : decode Y_MD_isOnSide.2.1 84 = .ok (.iconst (1), 1) := by decide +kernel
theorem d_MD_isOnSide_85 : decode Y_MD_isOnSide.2.1 85 = .ok (.goto (4), 3) := by decide +kernel
theorem d_MD_isOnSide_88 : decode Y_MD_isOnSide.2.1 88 = .ok (.iconst (0), 1) := by decide +kernel
theorem d_MD_isOnSide_89 : decode Y_MD_isOnSide.2.1 89 = .ok (.ireturn, 1) := by decide +kernel
def f_MD_isOnSide (w : zW) (D : zD) (r0 : Nat) (x1 : Int32) (x2 : Int32) : Option (Int32 × zD) := zjp (fun (x3 : Int32) (s0 : Int32) (D1 : zD) => zjp (fun (s0 : Int32) (D2 : zD) => zchk (s0 = 0 ∨ s0 = 1) (some (s0, D2))) (fun j89 => zjp (fun (D3 : zD) => j89 (1 : Int32) D3) (fun j84 => zjp (fun (x6 : Int32) (x7 : Int32) (D4 : zD) => zjp (fun (D5 : zD) => j89 (0 : Int32) D5) (fun j88 => (if x6 ≤ 0 then j88 D4 else (if 0 ≤ x7 then j88 D4 else j84 D4)))) (fun j74 => zald w D1 0 r0 (((59 : Int32) + ((2 : Int32) * x3)) + (1 : Int32)) (fun v6 => zci (f_MD_pulseAt w D1 r0 x1 ((1 : Int32) + s0)) (fun v7 D8 => zlet (v7 - v6) (fun v9 => zci (f_MD_ofHearer w D8 r0 x2 s0) (fun v10 D11 => zlet (v10 - v6) (fun v12 => (if 0 ≤ v9 then j74 v9 v12 D11 else (if 0 < v12 then j84 D11 else j74 v9 v12 D11))))))))))) (fun j24 => zci (f_MD_pulseAt w D r0 x1 (4 : Int32)) (fun v13 D14 => zald w D14 0 r0 ((59 : Int32) + ((2 : Int32) * v13)) (fun v15 => (if v15 = (1 : Int32) then j24 v13 (0 : Int32) D14 else j24 v13 (1 : Int32) D14))))
set_option maxHeartbeats 4000000 in
set_option maxRecDepth 100000 in
theorem c_MD_isOnSide (z : zT) (D : zD) (r0 : Nat) (x1 : Int32) (x2 : Int32) : zM Y_MD_isOnSide 2 0 0 (zqI z) (f_MD_isOnSide z.2 D r0 x1 x2) [.ref r0, .int x1, .int x2] z D := by
  refine zM_of (plainFor_of_name (by decide +kernel)) rfl (Nat.le_of_ble_eq_true rfl) (fun _ _ _ _ h => nomatch h.1) (fun K => ?_)
  unfold f_MD_isOnSide
  refine z_jp (fun j24 : Int32 → Int32 → zD → Option (Int32 × zD) => ∀ (x3 : Int32) (s0 : Int32) (D1 : zD), zGO K Y_MD_isOnSide 2 0 0 (zqI z) (j24 x3 s0 D1) 0 0 z D1 24 [(0, .ref r0), (1, .int x1), (2, .int x2), (3, .int x3)] [.int s0]) (fun x3 s0 D1 => ?_) (fun j24 h24 => ?_)
  · refine z_jp (fun j89 : Int32 → zD → Option (Int32 × zD) => ∀ (s0 : Int32) (D2 : zD), zGO K Y_MD_isOnSide 2 0 0 (zqI z) (j89 s0 D2) 0 0 z D2 89 [] [.int s0]) (fun s0 D2 => ?_) (fun j89 h89 => ?_)
    · exact z_zret (pc := 89) d_MD_isOnSide_89 rfl
    · refine z_jp (fun j84 : zD → Option (Int32 × zD) => ∀ (D3 : zD), zGO K Y_MD_isOnSide 2 0 0 (zqI z) (j84  D3) 0 0 z D3 84 [] []) (fun  D3 => ?_) (fun j84 h84 => ?_)
      · refine z_iconst (pc := 84) d_MD_isOnSide_84 ki_1 ?_
        refine z_goto (pc := 85) (tgt := 89) d_MD_isOnSide_85 (by decide) ?_
        exact z_sub [] rfl (h89 (1 : Int32) D3)
      · refine z_jp (fun j74 : Int32 → Int32 → zD → Option (Int32 × zD) => ∀ (x6 : Int32) (x7 : Int32) (D4 : zD), zGO K Y_MD_isOnSide 2 0 0 (zqI z) (j74 x6 x7 D4) 0 0 z D4 74 [(6, .int x6), (7, .int x7)] []) (fun x6 x7 D4 => ?_) (fun j74 h74 => ?_)
        · refine z_jp (fun j88 : zD → Option (Int32 × zD) => ∀ (D5 : zD), zGO K Y_MD_isOnSide 2 0 0 (zqI z) (j88  D5) 0 0 z D5 88 [] []) (fun  D5 => ?_) (fun j88 h88 => ?_)
          · refine z_iconst (pc := 88) d_MD_isOnSide_88 ki_0 ?_
            exact z_sub [] rfl (h89 (0 : Int32) D5)
          · refine z_iload (pc := 74) d_MD_isOnSide_74 0 rfl ?_
            refine z_if_le (pc := 76) (tgt := 88) d_MD_isOnSide_76 (by decide) ?_ ?_
            · exact z_sub [] rfl (h88 D4)
            · refine z_iload (pc := 79) d_MD_isOnSide_79 1 rfl ?_
              refine z_if_ge (pc := 81) (tgt := 88) d_MD_isOnSide_81 (by decide) ?_ ?_
              · exact z_sub [] rfl (h88 D4)
              · exact z_sub [] rfl (h84 D4)
        · refine z_istore (pc := 24) d_MD_isOnSide_24 (by decide) (lv' := [(4, .int s0), (0, .ref r0), (1, .int x1), (2, .int x2), (3, .int x3)]) rfl ?_
          refine z_aload_n (pc := 26) d_MD_isOnSide_26 rfl 1 rfl ?_
          refine z_bipush (pc := 27) d_MD_isOnSide_27 kb_59 ?_
          refine z_iconst (pc := 29) d_MD_isOnSide_29 ki_2 ?_
          refine z_iload_n (pc := 30) d_MD_isOnSide_30 rfl 4 rfl ?_
          refine z_imul (pc := 31) d_MD_isOnSide_31 ?_
          refine z_iadd (pc := 32) d_MD_isOnSide_32 ?_
          refine z_iconst (pc := 33) d_MD_isOnSide_33 ki_1 ?_
          refine z_iadd (pc := 34) d_MD_isOnSide_34 ?_
          refine z_iaload (pc := 35) d_MD_isOnSide_35 (fun v6 => ?_)
          refine z_istore (pc := 36) d_MD_isOnSide_36 (by decide) (lv' := [(5, .int v6), (4, .int s0), (0, .ref r0), (1, .int x1), (2, .int x2), (3, .int x3)]) rfl ?_
          refine z_aload_n (pc := 38) d_MD_isOnSide_38 rfl 2 rfl ?_
          refine z_iload_n (pc := 39) d_MD_isOnSide_39 rfl 3 rfl ?_
          refine z_iconst (pc := 40) d_MD_isOnSide_40 ki_1 ?_
          refine z_iload (pc := 41) d_MD_isOnSide_41 1 rfl ?_
          refine z_iadd (pc := 43) d_MD_isOnSide_43 ?_
          refine z_callSi (pc := 44) [.ref r0, .int x1, .int ((1 : Int32) + s0)] lkS_MD_67 (c_MD_pulseAt z D1 r0 x1 ((1 : Int32) + s0)) (by decide) rfl rfl (Nat.le_of_ble_eq_true rfl) d_MD_isOnSide_44 (fun v7 D8 => ?_)
          refine z_iload (pc := 47) d_MD_isOnSide_47 0 rfl ?_
          refine z_isub (pc := 49) d_MD_isOnSide_49 ?_
          refine z_leti (fun v9 => ?_)
          refine z_istore (pc := 50) d_MD_isOnSide_50 (by decide) (lv' := [(6, .int v9), (5, .int v6), (4, .int s0), (0, .ref r0), (1, .int x1), (2, .int x2), (3, .int x3)]) rfl ?_
          refine z_aload_n (pc := 52) d_MD_isOnSide_52 rfl 3 rfl ?_
          refine z_iload_n (pc := 53) d_MD_isOnSide_53 rfl 5 rfl ?_
          refine z_iload (pc := 54) d_MD_isOnSide_54 2 rfl ?_
          refine z_callSi (pc := 56) [.ref r0, .int x2, .int s0] lkS_MD_70 (c_MD_ofHearer z D8 r0 x2 s0) (by decide) rfl rfl (Nat.le_of_ble_eq_true rfl) d_MD_isOnSide_56 (fun v10 D11 => ?_)
          refine z_iload (pc := 59) d_MD_isOnSide_59 1 rfl ?_
          refine z_isub (pc := 61) d_MD_isOnSide_61 ?_
          refine z_leti (fun v12 => ?_)
          refine z_istore (pc := 62) d_MD_isOnSide_62 (by decide) (lv' := [(7, .int v12), (6, .int v9), (5, .int v6), (4, .int s0), (0, .ref r0), (1, .int x1), (2, .int x2), (3, .int x3)]) rfl ?_
          refine z_iload (pc := 64) d_MD_isOnSide_64 1 rfl ?_
          refine z_if_ge (pc := 66) (tgt := 74) d_MD_isOnSide_66 (by decide) ?_ ?_
          · exact z_sub [1, 0] rfl (h74 v9 v12 D11)
          · refine z_iload (pc := 69) d_MD_isOnSide_69 0 rfl ?_
            refine z_if_gt (pc := 71) (tgt := 84) d_MD_isOnSide_71 (by decide) ?_ ?_
            · exact z_sub [] rfl (h84 D11)
            · exact z_sub [1, 0] rfl (h74 v9 v12 D11)
  · refine z_aload_n (pc := 0) d_MD_isOnSide_0 rfl 0 rfl ?_
    refine z_iload_n (pc := 1) d_MD_isOnSide_1 rfl 1 rfl ?_
    refine z_iconst (pc := 2) d_MD_isOnSide_2 ki_4 ?_
    refine z_callSi (pc := 3) [.ref r0, .int x1, .int (4 : Int32)] lkS_MD_67 (c_MD_pulseAt z D r0 x1 (4 : Int32)) (by decide) rfl rfl (Nat.le_of_ble_eq_true rfl) d_MD_isOnSide_3 (fun v13 D14 => ?_)
    refine z_istore_n (pc := 6) d_MD_isOnSide_6 rfl (by decide) (lv' := [(3, .int v13), (0, .ref r0), (1, .int x1), (2, .int x2)]) rfl ?_
    refine z_aload_n (pc := 7) d_MD_isOnSide_7 rfl 1 rfl ?_
    refine z_bipush (pc := 8) d_MD_isOnSide_8 kb_59 ?_
    refine z_iconst (pc := 10) d_MD_isOnSide_10 ki_2 ?_
    refine z_iload_n (pc := 11) d_MD_isOnSide_11 rfl 0 rfl ?_
    refine z_imul (pc := 12) d_MD_isOnSide_12 ?_
    refine z_iadd (pc := 13) d_MD_isOnSide_13 ?_
    refine z_iaload (pc := 14) d_MD_isOnSide_14 (fun v15 => ?_)
    refine z_iconst (pc := 15) d_MD_isOnSide_15 ki_1 ?_
    refine z_icmp_ne (pc := 16) (tgt := 23) d_MD_isOnSide_16 (by decide) ?_ ?_
    · refine z_iconst (pc := 19) d_MD_isOnSide_19 ki_0 ?_
      refine z_goto (pc := 20) (tgt := 24) d_MD_isOnSide_20 (by decide) ?_
      exact z_sub [1, 2, 3, 0] rfl (h24 v13 (0 : Int32) D14)
    · refine z_iconst (pc := 23) d_MD_isOnSide_23 ki_1 ?_
      exact z_sub [1, 2, 3, 0] rfl (h24 v13 (1 : Int32) D14)
theorem d_MD_hear_0 : decode Y_MD_hear.2.1 0 = .ok (.bipush (65), 2) := by decide +kernel
theorem d_MD_hear_2 : decode Y_MD_hear.2.1 2 = .ok (.bipush (6), 2) := by decide +kernel
theorem d_MD_hear_4 : decode Y_MD_hear.2.1 4 = .ok (.iconst (4), 1) := by decide +kernel
theorem d_MD_hear_5 : decode Y_MD_hear.2.1 5 = .ok (.iload_n 2, 1) := by decide +kernel
theorem d_MD_hear_6 : decode Y_MD_hear.2.1 6 = .ok (.imul, 1) := by decide +kernel
theorem d_MD_hear_7 : decode Y_MD_hear.2.1 7 = .ok (.aload_n 0, 1) := by decide +kernel
theorem d_MD_hear_8 : decode Y_MD_hear.2.1 8 = .ok (.iload_n 1, 1) := by decide +kernel
theorem d_MD_hear_9 : decode Y_MD_hear.2.1 9 = .ok (.iconst (0), 1) := by decide +kernel
theorem d_MD_hear_10 : decode Y_MD_hear.2.1 10 = .ok (.invokestatic 67, 3) := by decide +kernel
theorem d_MD_hear_13 : decode Y_MD_hear.2.1 13 = .ok (.iadd, 1) := by decide +kernel
theorem d_MD_hear_14 : decode Y_MD_hear.2.1 14 = .ok (.imul, 1) := by decide +kernel
theorem d_MD_hear_15 : decode Y_MD_hear.2.1 15 = .ok (.iadd, 1) := by decide +kernel
theorem d_MD_hear_16 : decode Y_MD_hear.2.1 16 = .ok (.istore_n 3, 1) := by decide +kernel
theorem d_MD_hear_17 : decode Y_MD_hear.2.1 17 = .ok (.aload_n 0, 1) := by decide +kernel
theorem d_MD_hear_18 : decode Y_MD_hear.2.1 18 = .ok (.sipush (161), 3) := by decide +kernel
theorem d_MD_hear_21 : decode Y_MD_hear.2.1 21 = .ok (.bipush (6), 2) := by decide +kernel
theorem d_MD_hear_23 : decode Y_MD_hear.2.1 23 = .ok (.iload_n 1, 1) := by decide +kernel
theorem d_MD_hear_24 : decode Y_MD_hear.2.1 24 = .ok (.imul, 1) := by decide +kernel
theorem d_MD_hear_25 : decode Y_MD_hear.2.1 25 = .ok (.iadd, 1) := by decide +kernel
theorem d_MD_hear_26 : decode Y_MD_hear.2.1 26 = .ok (.iconst (5), 1) := by decide +kernel
theorem d_MD_hear_27 : decode Y_MD_hear.2.1 27 = .ok (.iadd, 1) := by decide +kernel
theorem d_MD_hear_28 : decode Y_MD_hear.2.1 28 = .ok (.dup2, 1) := by decide +kernel
theorem d_MD_hear_29 : decode Y_MD_hear.2.1 29 = .ok (.iaload, 1) := by decide +kernel
theorem d_MD_hear_30 : decode Y_MD_hear.2.1 30 = .ok (.iconst (1), 1) := by decide +kernel
theorem d_MD_hear_31 : decode Y_MD_hear.2.1 31 = .ok (.iload_n 2, 1) := by decide +kernel
theorem d_MD_hear_32 : decode Y_MD_hear.2.1 32 = .ok (.ishl, 1) := by decide +kernel
theorem d_MD_hear_33 : decode Y_MD_hear.2.1 33 = .ok (.ior, 1) := by decide +kernel
theorem d_MD_hear_34 : decode Y_MD_hear.2.1 34 = .ok (.iastore, 1) := by decide +kernel
theorem d_MD_hear_35 : decode Y_MD_hear.2.1 35 = .ok (.aload_n 0, 1) := by decide +kernel
theorem d_MD_hear_36 : decode Y_MD_hear.2.1 36 = .ok (.iload_n 1, 1) := by decide +kernel
theorem d_MD_hear_37 : decode Y_MD_hear.2.1 37 = .ok (.iconst (4), 1) := by decide +kernel
theorem d_MD_hear_38 : decode Y_MD_hear.2.1 38 = .ok (.invokestatic 67, 3) := by decide +kernel
theorem d_MD_hear_41 : decode Y_MD_hear.2.1 41 = .ok (.iconst (-1), 1) := by decide +kernel
theorem d_MD_hear_42 : decode Y_MD_hear.2.1 42 = .ok (.if_icmp .eq (23), 3) := by decide +kernel
theorem d_MD_hear_45 : decode Y_MD_hear.2.1 45 = .ok (.aload_n 0, 1) := by decide +kernel
theorem d_MD_hear_46 : decode Y_MD_hear.2.1 46 = .ok (.bipush (7), 2) := by decide +kernel
theorem d_MD_hear_48 : decode Y_MD_hear.2.1 48 = .ok (.dup2, 1) := by decide +kernel
theorem d_MD_hear_49 : decode Y_MD_hear.2.1 49 = .ok (.iaload, 1) := by decide +kernel
theorem d_MD_hear_50 : decode Y_MD_hear.2.1 50 = .ok (.iconst (1), 1) := by decide +kernel
theorem d_MD_hear_51 : decode Y_MD_hear.2.1 51 = .ok (.iadd, 1) := by decide +kernel
theorem d_MD_hear_52 : decode Y_MD_hear.2.1 52 = .ok (.iastore, 1) := by decide +kernel
theorem d_MD_hear_53 : decode Y_MD_hear.2.1 53 = .ok (.aload_n 0, 1) := by decide +kernel
theorem d_MD_hear_54 : decode Y_MD_hear.2.1 54 = .ok (.iload_n 3, 1) := by decide +kernel
theorem d_MD_hear_55 : decode Y_MD_hear.2.1 55 = .ok (.iconst (1), 1) := by decide +kernel
theorem d_MD_hear_56 : decode Y_MD_hear.2.1 56 = .ok (.iadd, 1) := by decide +kernel
theorem d_MD_hear_57 : decode Y_MD_hear.2.1 57 = .ok (.dup2, 1) := by decide +kernel
theorem d_MD_hear_58 : decode Y_MD_hear.2.1 58 = .ok (.iaload, 1) := by decide +kernel
theorem d_MD_hear_59 : decode Y_MD_hear.2.1 59 = .ok (.iconst (1), 1) := by decide +kernel
theorem d_MD_hear_60 : decode Y_MD_hear.2.1 60 = .ok (.iadd, 1) := by decide +kernel
theorem d_MD_hear_61 : decode Y_MD_hear.2.1 61 = .ok (.iastore, 1) := by decide +kernel
theorem d_MD_hear_62 : decode Y_MD_hear.2.1 62 = .ok (.goto (122), 3) := by decide +kernel
theorem d_MD_hear_65 : decode Y_MD_hear.2.1 65 = .ok (.aload_n 0, 1) := by decide +kernel
theorem d_MD_hear_66 : decode Y_MD_hear.2.1 66 = .ok (.iload_n 1, 1) := by decide +kernel
theorem d_MD_hear_67 : decode Y_MD_hear.2.1 67 = .ok (.iconst (3), 1) := by decide +kernel
theorem d_MD_hear_68 : decode Y_MD_hear.2.1 68 = .ok (.invokestatic 67, 3) := by decide +kernel
theorem d_MD_hear_71 : decode Y_MD_hear.2.1 71 = .ok (.istore 4, 2) := by decide +kernel
theorem d_MD_hear_73 : decode Y_MD_hear.2.1 73 = .ok (.aload_n 0, 1) := by decide +kernel
theorem d_MD_hear_74 : decode Y_MD_hear.2.1 74 = .ok (.iload_n 3, 1) := by decide +kernel
theorem d_MD_hear_75 : decode Y_MD_hear.2.1 75 = .ok (.iconst (5), 1) := by decide +kernel
theorem d_MD_hear_76 : decode Y_MD_hear.2.1 76 = .ok (.iadd, 1) := by decide +kernel
theorem d_MD_hear_77 : decode Y_MD_hear.2.1 77 = .ok (.iaload, 1) := by decide +kernel
theorem d_MD_hear_78 : decode Y_MD_hear.2.1 78 = .ok (.iload 4, 2) := by decide +kernel
theorem d_MD_hear_80 : decode Y_MD_hear.2.1 80 = .ok (.if_icmp .le (7), 3) := by decide +kernel
theorem d_MD_hear_83 : decode Y_MD_hear.2.1 83 = .ok (.iconst (1), 1) := by decide +kernel
theorem d_MD_hear_84 : decode Y_MD_hear.2.1 84 = .ok (.goto (4), 3) := by decide +kernel
theorem d_MD_hear_87 : decode Y_MD_hear.2.1 87 = .ok (.iconst (0), 1) := by decide +kernel
theorem d_MD_hear_88 : decode Y_MD_hear.2.1 88 = .ok (.istore 5, 2) := by decide +kernel
theorem d_MD_hear_90 : decode Y_MD_hear.2.1 90 = .ok (.aload_n 0, 1) := by decide +kernel
theorem d_MD_hear_91 : decode Y_MD_hear.2.1 91 = .ok (.bipush (6), 2) := by decide +kernel
theorem d_MD_hear_93 : decode Y_MD_hear.2.1 93 = .ok (.dup2, 1) := by decide +kernel
theorem d_MD_hear_94 : decode Y_MD_hear.2.1 94 = .ok (.iaload, 1) := by decide +kernel
theorem d_MD_hear_95 : decode Y_MD_hear.2.1 95 = .ok (.iconst (1), 1) := by decide +kernel
theorem d_MD_hear_96 : decode Y_MD_hear.2.1 96 = .ok (.iadd, 1) := by decide +kernel
theorem d_MD_hear_97 : decode Y_MD_hear.2.1 97 = .ok (.iastore, 1) := by decide +kernel
theorem d_MD_hear_98 : decode Y_MD_hear.2.1 98 = .ok (.aload_n 0, 1) := by decide +kernel
theorem d_MD_hear_99 : decode Y_MD_hear.2.1 99 = .ok (.iload_n 3, 1) := by decide +kernel
theorem d_MD_hear_100 : decode Y_MD_hear.2.1 100 = .ok (.dup2, 1) := by decide +kernel
theorem d_MD_hear_101 : decode Y_MD_hear.2.1 101 = .ok (.iaload, 1) := by decide +kernel
theorem d_MD_hear_102 : decode Y_MD_hear.2.1 102 = .ok (.iconst (1), 1) := by decide +kernel
theorem d_MD_hear_103 : decode Y_MD_hear.2.1 103 = .ok (.iadd, 1) := by decide +kernel
theorem d_MD_hear_104 : decode Y_MD_hear.2.1 104 = .ok (.iastore, 1) := by decide +kernel
theorem d_MD_hear_105 : decode Y_MD_hear.2.1 105 = .ok (.aload_n 0, 1) := by decide +kernel
theorem d_MD_hear_106 : decode Y_MD_hear.2.1 106 = .ok (.bipush (8), 2) := by decide +kernel
theorem d_MD_hear_108 : decode Y_MD_hear.2.1 108 = .ok (.dup2, 1) := by decide +kernel
theorem d_MD_hear_109 : decode Y_MD_hear.2.1 109 = .ok (.iaload, 1) := by decide +kernel
theorem d_MD_hear_110 : decode Y_MD_hear.2.1 110 = .ok (.iload 5, 2) := by decide +kernel
theorem d_MD_hear_112 : decode Y_MD_hear.2.1 112 = .ok (.iadd, 1) := by decide +kernel
theorem d_MD_hear_113 : decode Y_MD_hear.2.1 113 = .ok (.iastore, 1) := by decide +kernel
theorem d_MD_hear_114 : decode Y_MD_hear.2.1 114 = .ok (.aload_n 0, 1) := by decide +kernel
theorem d_MD_hear_115 : decode Y_MD_hear.2.1 115 = .ok (.iload_n 3, 1) := by decide +kernel
theorem d_MD_hear_116 : decode Y_MD_hear.2.1 116 = .ok (.iconst (2), 1) := by decide +kernel
theorem d_MD_hear_117 : decode Y_MD_hear.2.1 117 = .ok (.iadd, 1) := by decide +kernel
theorem d_MD_hear_118 : decode Y_MD_hear.2.1 118 = .ok (.dup2, 1) := by decide +kernel
theorem d_MD_hear_119 : decode Y_MD_hear.2.1 119 = .ok (.iaload, 1) := by decide +kernel
theorem d_MD_hear_120 : decode Y_MD_hear.2.1 120 = .ok (.iload 5, 2) := by decide +kernel
theorem d_MD_hear_122 : decode Y_MD_hear.2.1 122 = .ok (.iadd, 1) := by decide +kernel
theorem d_MD_hear_123 : decode Y_MD_hear.2.1 123 = .ok (.iastore, 1) := by decide +kernel
theorem d_MD_hear_124 : decode Y_MD_hear.2.1 124 = .ok (.aload_n 0, 1) := by decide +kernel
theorem d_MD_hear_125 : decode Y_MD_hear.2.1 125 = .ok (.iload_n 3, 1) := by decide +kernel
theorem d_MD_hear_126 : decode Y_MD_hear.2.1 126 = .ok (.iconst (4), 1) := by decide +kernel
theorem d_MD_hear_127 : decode Y_MD_hear.2.1 127 = .ok (.iadd, 1) := by decide +kernel
theorem d_MD_hear_128 : decode Y_MD_hear.2.1 128 = .ok (.aload_n 0, 1) := by decide +kernel
theorem d_MD_hear_129 : decode Y_MD_hear.2.1 129 = .ok (.iload_n 3, 1) := by decide +kernel
theorem d_MD_hear_130 : decode Y_MD_hear.2.1 130 = .ok (.iconst (3), 1) := by decide +kernel
theorem d_MD_hear_131 : decode Y_MD_hear.2.1 131 = .ok (.iadd, 1) := by decide +kernel
theorem d_MD_hear_132 : decode Y_MD_hear.2.1 132 = .ok (.iaload, 1) := by decide +kernel
theorem d_MD_hear_133 : decode Y_MD_hear.2.1 133 = .ok (.iconst (-1), 1) := by decide +kernel
theorem d_MD_hear_134 : decode Y_MD_hear.2.1 134 = .ok (.if_icmp .ne (7), 3) := by decide +kernel
theorem d_MD_hear_137 : decode Y_MD_hear.2.1 137 = .ok (.iconst (-1), 1) := by decide +kernel
theorem d_MD_hear_138 : decode Y_MD_hear.2.1 138 = .ok (.goto (12), 3) := by decide +kernel
theorem d_MD_hear_141 : decode Y_MD_hear.2.1 141 = .ok (.aload_n 0, 1) := by decide +kernel
theorem d_MD_hear_142 : decode Y_MD_hear.2.1 142 = .ok (.iconst (3), 1) := by decide +kernel
theorem d_MD_hear_143 : decode Y_MD_hear.2.1 143 = .ok (.iaload, 1) := by decide +kernel
theorem d_MD_hear_144 : decode Y_MD_hear.2.1 144 = .ok (.aload_n 0, 1) := by decide +kernel
theorem d_MD_hear_145 : decode Y_MD_hear.2.1 145 = .ok (.iload_n 3, 1) := by decide +kernel
theorem d_MD_hear_146 : decode Y_MD_hear.2.1 146 = .ok (.iconst (3), 1) := by decide +kernel
theorem d_MD_hear_147 : decode Y_MD_hear.2.1 147 = .ok (.iadd, 1) := by decide +kernel
theorem d_MD_hear_148 : decode Y_MD_hear.2.1 148 = .ok (.iaload, 1) := by decide +kernel
theorem d_MD_hear_149 : decode Y_MD_hear.2.1 149 = .ok (.isub, 1) := by decide +kernel
theorem d_MD_hear_150 : decode Y_MD_hear.2.1 150 = .ok (.iastore, 1) := by decide +kernel
theorem d_MD_hear_151 : decode Y_MD_hear.2.1 151 = .ok (.aload_n 0, 1) := by decide +kernel
theorem d_MD_hear_152 : decode Y_MD_hear.2.1 152 = .ok (.iload_n 3, 1) := by decide +kernel
theorem d_MD_hear_153 : decode Y_MD_hear.2.1 153 = .ok (.iconst (3), 1) := by decide +kernel
theorem d_MD_hear_154 : decode Y_MD_hear.2.1 154 = .ok (.iadd, 1) := by decide +kernel
theorem d_MD_hear_155 : decode Y_MD_hear.2.1 155 = .ok (.aload_n 0, 1) := by decide +kernel
theorem d_MD_hear_156 : decode Y_MD_hear.2.1 156 = .ok (.iconst (3), 1) := by decide +kernel
theorem d_MD_hear_157 : decode Y_MD_hear.2.1 157 = .ok (.iaload, 1) := by decide +kernel
theorem d_MD_hear_158 : decode Y_MD_hear.2.1 158 = .ok (.iastore, 1) := by decide +kernel
theorem d_MD_hear_159 : decode Y_MD_hear.2.1 159 = .ok (.aload_n 0, 1) := by decide +kernel
theorem d_MD_hear_160 : decode Y_MD_hear.2.1 160 = .ok (.iload_n 3, 1) := by decide +kernel
theorem d_MD_hear_161 : decode Y_MD_hear.2.1 161 = .ok (.iconst (5), 1) := by decide +kernel
theorem d_MD_hear_162 : decode Y_MD_hear.2.1 162 = .ok (.iadd, 1) := by decide +kernel
theorem d_MD_hear_163 : decode Y_MD_hear.2.1 163 = .ok (.iload 4, 2) := by decide +kernel
theorem d_MD_hear_165 : decode Y_MD_hear.2.1 165 = .ok (.aload_n 0, 1) := by decide +kernel
theorem d_MD_hear_166 : decode Y_MD_hear.2.1 166 = .ok (.iload_n 3, 1) := by decide +kernel
theorem d_MD_hear_167 : decode Y_MD_hear.2.1 167 = .ok (.iconst (5), 1) := by decide +kernel
theorem d_MD_hear_168 : decode Y_MD_hear.2.1 168 = .ok (.iadd, 1) := by decide +kernel
theorem d_MD_hear_169 : decode Y_MD_hear.2.1 169 = .ok (.iaload, 1) := by decide +kernel
theorem d_MD_hear_170 : decode Y_MD_hear.2.1 170 = .ok (.if_icmp .le (8), 3) := by decide +kernel
theorem d_MD_hear_173 : decode Y_MD_hear.2.1 173 = .ok (.iload 4, 2) := by decide +kernel
theorem d_MD_hear_175 : decode Y_MD_hear.2.1 175 = .ok (.goto (8), 3) := by decide +kernel
theorem d_MD_hear_178 : decode Y_MD_hear.2.1 178 = .ok (.aload_n 0, 1) := by decide +kernel
theorem d_MD_hear_179 : decode Y_MD_hear.2.1 179 = .ok (.iload_n 3, 1) := by decide +kernel
theorem d_MD_hear_180 : decode Y_MD_hear.2.1 180 = .ok (.iconst (5), 1) := by decide +kernel
theorem d_MD_hear_181 : decode Y_MD_hear.2.1 181 = .ok (.iadd, 1) := by decide +kernel
theorem d_MD_hear_182 : decode Y_MD_hear.2.1 182 = .ok (.iaload, 1) := by decide +kernel
theorem d_MD_hear_183 : decode Y_MD_hear.2.1 183 = .ok (.iastore, 1) := by decide +kernel
theorem d_MD_hear_184 : decode Y_MD_hear.2.1 184 = .ok (.return_, 1) := by decide +kernel
def f_MD_hear (w : zW) (D : zD) (r0 : Nat) (x1 : Int32) (x2 : Int32) : Option (zD) := zjp (fun (D1 : zD) => some D1) (fun j184 => zci (f_MD_pulseAt w D r0 x1 (0 : Int32)) (fun v2 D3 => zlet ((65 : Int32) + ((6 : Int32) * (((4 : Int32) * x2) + v2))) (fun v4 => zlet (((161 : Int32) + ((6 : Int32) * x1)) + (5 : Int32)) (fun v5 => zald w D3 0 r0 v5 (fun v6 => zast w D3 0 r0 v5 (v6 ||| ((1 : Int32) <<< (x2 &&& 31))) (fun D7 => zci (f_MD_pulseAt w D7 r0 x1 (4 : Int32)) (fun v8 D9 => (if v8 = (-1 : Int32) then zjp (fun (x3 : Int32) (x4 : Int32) (s0 : Int32) (D10 : zD) => zjp (fun (x3 : Int32) (x4 : Int32) (s0 : Nat) (s1 : Int32) (s2 : Int32) (D11 : zD) => zjp (fun (s0 : Nat) (s1 : Int32) (s2 : Int32) (D12 : zD) => zast w D12 0 s0 s1 s2 (fun D13 => j184 D13)) (fun j183 => zast w D11 0 s0 s1 s2 (fun D14 => zald w D14 0 r0 (3 : Int32) (fun v15 => zast w D14 0 r0 (x3 + (3 : Int32)) v15 (fun D16 => zald w D16 0 r0 (x3 + (5 : Int32)) (fun v17 => (if x4 ≤ v17 then zald w D16 0 r0 (x3 + (5 : Int32)) (fun v18 => j183 r0 (x3 + (5 : Int32)) v18 D16) else j183 r0 (x3 + (5 : Int32)) x4 D16))))))) (fun j150 => zald w D10 0 r0 (6 : Int32) (fun v19 => zast w D10 0 r0 (6 : Int32) (v19 + (1 : Int32)) (fun D20 => zald w D20 0 r0 x3 (fun v21 => zast w D20 0 r0 x3 (v21 + (1 : Int32)) (fun D22 => zald w D22 0 r0 (8 : Int32) (fun v23 => zast w D22 0 r0 (8 : Int32) (v23 + s0) (fun D24 => zlet (x3 + (2 : Int32)) (fun v25 => zald w D24 0 r0 v25 (fun v26 => zast w D24 0 r0 v25 (v26 + s0) (fun D27 => zald w D27 0 r0 (x3 + (3 : Int32)) (fun v28 => (if v28 = (-1 : Int32) then j150 x3 x4 r0 (x3 + (4 : Int32)) (-1 : Int32) D27 else zald w D27 0 r0 (3 : Int32) (fun v29 => zald w D27 0 r0 (x3 + (3 : Int32)) (fun v30 => j150 x3 x4 r0 (x3 + (4 : Int32)) (v29 - v30) D27))))))))))))))) (fun j88 => zci (f_MD_pulseAt w D9 r0 x1 (3 : Int32)) (fun v31 D32 => zald w D32 0 r0 (v4 + (5 : Int32)) (fun v33 => (if v33 ≤ v31 then j88 v4 v31 (0 : Int32) D32 else j88 v4 v31 (1 : Int32) D32)))) else zald w D9 0 r0 (7 : Int32) (fun v34 => zast w D9 0 r0 (7 : Int32) (v34 + (1 : Int32)) (fun D35 => zlet (v4 + (1 : Int32)) (fun v36 => zald w D35 0 r0 v36 (fun v37 => zast w D35 0 r0 v36 (v37 + (1 : Int32)) (fun D38 => j184 D38)))))))))))))
set_option maxHeartbeats 4000000 in
set_option maxRecDepth 100000 in
theorem c_MD_hear (z : zT) (D : zD) (r0 : Nat) (x1 : Int32) (x2 : Int32) : zM Y_MD_hear 2 0 0 (zqV z) (f_MD_hear z.2 D r0 x1 x2) [.ref r0, .int x1, .int x2] z D := by
  refine zM_of (plainFor_of_name (by decide +kernel)) rfl (Nat.le_of_ble_eq_true rfl) (fun _ _ _ _ h => nomatch h.1) (fun K => ?_)
  unfold f_MD_hear
  refine z_jp (fun j184 : zD → Option (zD) => ∀ (D1 : zD), zGO K Y_MD_hear 2 0 0 (zqV z) (j184  D1) 0 0 z D1 184 [] []) (fun  D1 => ?_) (fun j184 h184 => ?_)
  · exact z_vret (pc := 184) d_MD_hear_184 rfl
  · refine z_bipush (pc := 0) d_MD_hear_0 kb_65 ?_
    refine z_bipush (pc := 2) d_MD_hear_2 kb_6 ?_
    refine z_iconst (pc := 4) d_MD_hear_4 ki_4 ?_
    refine z_iload_n (pc := 5) d_MD_hear_5 rfl 2 rfl ?_
    refine z_imul (pc := 6) d_MD_hear_6 ?_
    refine z_aload_n (pc := 7) d_MD_hear_7 rfl 0 rfl ?_
    refine z_iload_n (pc := 8) d_MD_hear_8 rfl 1 rfl ?_
    refine z_iconst (pc := 9) d_MD_hear_9 ki_0 ?_
    refine z_callSi (pc := 10) [.ref r0, .int x1, .int (0 : Int32)] lkS_MD_67 (c_MD_pulseAt z D r0 x1 (0 : Int32)) (by decide) rfl rfl (Nat.le_of_ble_eq_true rfl) d_MD_hear_10 (fun v2 D3 => ?_)
    refine z_iadd (pc := 13) d_MD_hear_13 ?_
    refine z_imul (pc := 14) d_MD_hear_14 ?_
    refine z_iadd (pc := 15) d_MD_hear_15 ?_
    refine z_leti (fun v4 => ?_)
    refine z_istore_n (pc := 16) d_MD_hear_16 rfl (by decide) (lv' := [(3, .int v4), (0, .ref r0), (1, .int x1), (2, .int x2)]) rfl ?_
    refine z_aload_n (pc := 17) d_MD_hear_17 rfl 1 rfl ?_
    refine z_sipush (pc := 18) d_MD_hear_18 ks_161 ?_
    refine z_bipush (pc := 21) d_MD_hear_21 kb_6 ?_
    refine z_iload_n (pc := 23) d_MD_hear_23 rfl 2 rfl ?_
    refine z_imul (pc := 24) d_MD_hear_24 ?_
    refine z_iadd (pc := 25) d_MD_hear_25 ?_
    refine z_iconst (pc := 26) d_MD_hear_26 ki_5 ?_
    refine z_iadd (pc := 27) d_MD_hear_27 ?_
    refine z_leti (fun v5 => ?_)
    refine z_dup2 (pc := 28) d_MD_hear_28 rfl rfl ?_
    refine z_iaload (pc := 29) d_MD_hear_29 (fun v6 => ?_)
    refine z_iconst (pc := 30) d_MD_hear_30 ki_1 ?_
    refine z_iload_n (pc := 31) d_MD_hear_31 rfl 3 rfl ?_
    refine z_ishl (pc := 32) d_MD_hear_32 ?_
    refine z_ior (pc := 33) d_MD_hear_33 ?_
    refine z_iastore (pc := 34) d_MD_hear_34 (fun D7 => ?_)
    refine z_aload_n (pc := 35) d_MD_hear_35 rfl 1 rfl ?_
    refine z_iload_n (pc := 36) d_MD_hear_36 rfl 2 rfl ?_
    refine z_iconst (pc := 37) d_MD_hear_37 ki_4 ?_
    refine z_callSi (pc := 38) [.ref r0, .int x1, .int (4 : Int32)] lkS_MD_67 (c_MD_pulseAt z D7 r0 x1 (4 : Int32)) (by decide) rfl rfl (Nat.le_of_ble_eq_true rfl) d_MD_hear_38 (fun v8 D9 => ?_)
    refine z_iconst (pc := 41) d_MD_hear_41 ki_m1 ?_
    refine z_icmp_eq (pc := 42) (tgt := 65) d_MD_hear_42 (by decide) ?_ ?_
    · refine z_jp (fun j88 : Int32 → Int32 → Int32 → zD → Option (zD) => ∀ (x3 : Int32) (x4 : Int32) (s0 : Int32) (D10 : zD), zGO K Y_MD_hear 2 0 0 (zqV z) (j88 x3 x4 s0 D10) 0 0 z D10 88 [(0, .ref r0), (3, .int x3), (4, .int x4)] [.int s0]) (fun x3 x4 s0 D10 => ?_) (fun j88 h88 => ?_)
      · refine z_jp (fun j150 : Int32 → Int32 → Nat → Int32 → Int32 → zD → Option (zD) => ∀ (x3 : Int32) (x4 : Int32) (s0 : Nat) (s1 : Int32) (s2 : Int32) (D11 : zD), zGO K Y_MD_hear 2 0 0 (zqV z) (j150 x3 x4 s0 s1 s2 D11) 0 0 z D11 150 [(0, .ref r0), (3, .int x3), (4, .int x4)] [.int s2, .int s1, .ref s0]) (fun x3 x4 s0 s1 s2 D11 => ?_) (fun j150 h150 => ?_)
        · refine z_jp (fun j183 : Nat → Int32 → Int32 → zD → Option (zD) => ∀ (s0 : Nat) (s1 : Int32) (s2 : Int32) (D12 : zD), zGO K Y_MD_hear 2 0 0 (zqV z) (j183 s0 s1 s2 D12) 0 0 z D12 183 [] [.int s2, .int s1, .ref s0]) (fun s0 s1 s2 D12 => ?_) (fun j183 h183 => ?_)
          · refine z_iastore (pc := 183) d_MD_hear_183 (fun D13 => ?_)
            exact z_sub [] rfl (h184 D13)
          · refine z_iastore (pc := 150) d_MD_hear_150 (fun D14 => ?_)
            refine z_aload_n (pc := 151) d_MD_hear_151 rfl 0 rfl ?_
            refine z_iload_n (pc := 152) d_MD_hear_152 rfl 1 rfl ?_
            refine z_iconst (pc := 153) d_MD_hear_153 ki_3 ?_
            refine z_iadd (pc := 154) d_MD_hear_154 ?_
            refine z_aload_n (pc := 155) d_MD_hear_155 rfl 0 rfl ?_
            refine z_iconst (pc := 156) d_MD_hear_156 ki_3 ?_
            refine z_iaload (pc := 157) d_MD_hear_157 (fun v15 => ?_)
            refine z_iastore (pc := 158) d_MD_hear_158 (fun D16 => ?_)
            refine z_aload_n (pc := 159) d_MD_hear_159 rfl 0 rfl ?_
            refine z_iload_n (pc := 160) d_MD_hear_160 rfl 1 rfl ?_
            refine z_iconst (pc := 161) d_MD_hear_161 ki_5 ?_
            refine z_iadd (pc := 162) d_MD_hear_162 ?_
            refine z_iload (pc := 163) d_MD_hear_163 2 rfl ?_
            refine z_aload_n (pc := 165) d_MD_hear_165 rfl 0 rfl ?_
            refine z_iload_n (pc := 166) d_MD_hear_166 rfl 1 rfl ?_
            refine z_iconst (pc := 167) d_MD_hear_167 ki_5 ?_
            refine z_iadd (pc := 168) d_MD_hear_168 ?_
            refine z_iaload (pc := 169) d_MD_hear_169 (fun v17 => ?_)
            refine z_icmp_le (pc := 170) (tgt := 178) d_MD_hear_170 (by decide) ?_ ?_
            · refine z_aload_n (pc := 178) d_MD_hear_178 rfl 0 rfl ?_
              refine z_iload_n (pc := 179) d_MD_hear_179 rfl 1 rfl ?_
              refine z_iconst (pc := 180) d_MD_hear_180 ki_5 ?_
              refine z_iadd (pc := 181) d_MD_hear_181 ?_
              refine z_iaload (pc := 182) d_MD_hear_182 (fun v18 => ?_)
              exact z_sub [] rfl (h183 r0 (x3 + (5 : Int32)) v18 D16)
            · refine z_iload (pc := 173) d_MD_hear_173 2 rfl ?_
              refine z_goto (pc := 175) (tgt := 183) d_MD_hear_175 (by decide) ?_
              exact z_sub [] rfl (h183 r0 (x3 + (5 : Int32)) x4 D16)
        · refine z_istore (pc := 88) d_MD_hear_88 (by decide) (lv' := [(5, .int s0), (0, .ref r0), (3, .int x3), (4, .int x4)]) rfl ?_
          refine z_aload_n (pc := 90) d_MD_hear_90 rfl 1 rfl ?_
          refine z_bipush (pc := 91) d_MD_hear_91 kb_6 ?_
          refine z_dup2 (pc := 93) d_MD_hear_93 rfl rfl ?_
          refine z_iaload (pc := 94) d_MD_hear_94 (fun v19 => ?_)
          refine z_iconst (pc := 95) d_MD_hear_95 ki_1 ?_
          refine z_iadd (pc := 96) d_MD_hear_96 ?_
          refine z_iastore (pc := 97) d_MD_hear_97 (fun D20 => ?_)
          refine z_aload_n (pc := 98) d_MD_hear_98 rfl 1 rfl ?_
          refine z_iload_n (pc := 99) d_MD_hear_99 rfl 2 rfl ?_
          refine z_dup2 (pc := 100) d_MD_hear_100 rfl rfl ?_
          refine z_iaload (pc := 101) d_MD_hear_101 (fun v21 => ?_)
          refine z_iconst (pc := 102) d_MD_hear_102 ki_1 ?_
          refine z_iadd (pc := 103) d_MD_hear_103 ?_
          refine z_iastore (pc := 104) d_MD_hear_104 (fun D22 => ?_)
          refine z_aload_n (pc := 105) d_MD_hear_105 rfl 1 rfl ?_
          refine z_bipush (pc := 106) d_MD_hear_106 kb_8 ?_
          refine z_dup2 (pc := 108) d_MD_hear_108 rfl rfl ?_
          refine z_iaload (pc := 109) d_MD_hear_109 (fun v23 => ?_)
          refine z_iload (pc := 110) d_MD_hear_110 0 rfl ?_
          refine z_iadd (pc := 112) d_MD_hear_112 ?_
          refine z_iastore (pc := 113) d_MD_hear_113 (fun D24 => ?_)
          refine z_aload_n (pc := 114) d_MD_hear_114 rfl 1 rfl ?_
          refine z_iload_n (pc := 115) d_MD_hear_115 rfl 2 rfl ?_
          refine z_iconst (pc := 116) d_MD_hear_116 ki_2 ?_
          refine z_iadd (pc := 117) d_MD_hear_117 ?_
          refine z_leti (fun v25 => ?_)
          refine z_dup2 (pc := 118) d_MD_hear_118 rfl rfl ?_
          refine z_iaload (pc := 119) d_MD_hear_119 (fun v26 => ?_)
          refine z_iload (pc := 120) d_MD_hear_120 0 rfl ?_
          refine z_iadd (pc := 122) d_MD_hear_122 ?_
          refine z_iastore (pc := 123) d_MD_hear_123 (fun D27 => ?_)
          refine z_aload_n (pc := 124) d_MD_hear_124 rfl 1 rfl ?_
          refine z_iload_n (pc := 125) d_MD_hear_125 rfl 2 rfl ?_
          refine z_iconst (pc := 126) d_MD_hear_126 ki_4 ?_
          refine z_iadd (pc := 127) d_MD_hear_127 ?_
          refine z_aload_n (pc := 128) d_MD_hear_128 rfl 1 rfl ?_
          refine z_iload_n (pc := 129) d_MD_hear_129 rfl 2 rfl ?_
          refine z_iconst (pc := 130) d_MD_hear_130 ki_3 ?_
          refine z_iadd (pc := 131) d_MD_hear_131 ?_
          refine z_iaload (pc := 132) d_MD_hear_132 (fun v28 => ?_)
          refine z_iconst (pc := 133) d_MD_hear_133 ki_m1 ?_
          refine z_icmp_ne (pc := 134) (tgt := 141) d_MD_hear_134 (by decide) ?_ ?_
          · refine z_iconst (pc := 137) d_MD_hear_137 ki_m1 ?_
            refine z_goto (pc := 138) (tgt := 150) d_MD_hear_138 (by decide) ?_
            exact z_sub [1, 2, 3] rfl (h150 x3 x4 r0 (x3 + (4 : Int32)) (-1 : Int32) D27)
          · refine z_aload_n (pc := 141) d_MD_hear_141 rfl 1 rfl ?_
            refine z_iconst (pc := 142) d_MD_hear_142 ki_3 ?_
            refine z_iaload (pc := 143) d_MD_hear_143 (fun v29 => ?_)
            refine z_aload_n (pc := 144) d_MD_hear_144 rfl 1 rfl ?_
            refine z_iload_n (pc := 145) d_MD_hear_145 rfl 2 rfl ?_
            refine z_iconst (pc := 146) d_MD_hear_146 ki_3 ?_
            refine z_iadd (pc := 147) d_MD_hear_147 ?_
            refine z_iaload (pc := 148) d_MD_hear_148 (fun v30 => ?_)
            refine z_isub (pc := 149) d_MD_hear_149 ?_
            exact z_sub [1, 2, 3] rfl (h150 x3 x4 r0 (x3 + (4 : Int32)) (v29 - v30) D27)
      · refine z_aload_n (pc := 65) d_MD_hear_65 rfl 1 rfl ?_
        refine z_iload_n (pc := 66) d_MD_hear_66 rfl 2 rfl ?_
        refine z_iconst (pc := 67) d_MD_hear_67 ki_3 ?_
        refine z_callSi (pc := 68) [.ref r0, .int x1, .int (3 : Int32)] lkS_MD_67 (c_MD_pulseAt z D9 r0 x1 (3 : Int32)) (by decide) rfl rfl (Nat.le_of_ble_eq_true rfl) d_MD_hear_68 (fun v31 D32 => ?_)
        refine z_istore (pc := 71) d_MD_hear_71 (by decide) (lv' := [(4, .int v31), (3, .int v4), (0, .ref r0), (1, .int x1), (2, .int x2)]) rfl ?_
        refine z_aload_n (pc := 73) d_MD_hear_73 rfl 2 rfl ?_
        refine z_iload_n (pc := 74) d_MD_hear_74 rfl 1 rfl ?_
        refine z_iconst (pc := 75) d_MD_hear_75 ki_5 ?_
        refine z_iadd (pc := 76) d_MD_hear_76 ?_
        refine z_iaload (pc := 77) d_MD_hear_77 (fun v33 => ?_)
        refine z_iload (pc := 78) d_MD_hear_78 0 rfl ?_
        refine z_icmp_le (pc := 80) (tgt := 87) d_MD_hear_80 (by decide) ?_ ?_
        · refine z_iconst (pc := 87) d_MD_hear_87 ki_0 ?_
          exact z_sub [2, 1, 0] rfl (h88 v4 v31 (0 : Int32) D32)
        · refine z_iconst (pc := 83) d_MD_hear_83 ki_1 ?_
          refine z_goto (pc := 84) (tgt := 88) d_MD_hear_84 (by decide) ?_
          exact z_sub [2, 1, 0] rfl (h88 v4 v31 (1 : Int32) D32)
    · refine z_aload_n (pc := 45) d_MD_hear_45 rfl 1 rfl ?_
      refine z_bipush (pc := 46) d_MD_hear_46 kb_7 ?_
      refine z_dup2 (pc := 48) d_MD_hear_48 rfl rfl ?_
      refine z_iaload (pc := 49) d_MD_hear_49 (fun v34 => ?_)
      refine z_iconst (pc := 50) d_MD_hear_50 ki_1 ?_
      refine z_iadd (pc := 51) d_MD_hear_51 ?_
      refine z_iastore (pc := 52) d_MD_hear_52 (fun D35 => ?_)
      refine z_aload_n (pc := 53) d_MD_hear_53 rfl 1 rfl ?_
      refine z_iload_n (pc := 54) d_MD_hear_54 rfl 0 rfl ?_
      refine z_iconst (pc := 55) d_MD_hear_55 ki_1 ?_
      refine z_iadd (pc := 56) d_MD_hear_56 ?_
      refine z_leti (fun v36 => ?_)
      refine z_dup2 (pc := 57) d_MD_hear_57 rfl rfl ?_
      refine z_iaload (pc := 58) d_MD_hear_58 (fun v37 => ?_)
      refine z_iconst (pc := 59) d_MD_hear_59 ki_1 ?_
      refine z_iadd (pc := 60) d_MD_hear_60 ?_
      refine z_iastore (pc := 61) d_MD_hear_61 (fun D38 => ?_)
      refine z_goto (pc := 62) (tgt := 184) d_MD_hear_62 (by decide) ?_
      exact z_sub [] rfl (h184 D38)
theorem d_MD_isGone_0 : decode Y_MD_isGone.2.1 0 = .ok (.aload_n 0, 1) := by decide +kernel
theorem d_MD_isGone_1 : decode Y_MD_isGone.2.1 1 = .ok (.iconst (1), 1) := by decide +kernel
theorem d_MD_isGone_2 : decode Y_MD_isGone.2.1 2 = .ok (.iaload, 1) := by decide +kernel
theorem d_MD_isGone_3 : decode Y_MD_isGone.2.1 3 = .ok (.ifCond .le (23), 3) := by decide +kernel
theorem d_MD_isGone_6 : decode Y_MD_isGone.2.1 6 = .ok (.aload_n 0, 1) := by decide +kernel
theorem d_MD_isGone_7 : decode Y_MD_isGone.2.1 7 = .ok (.iload_n 1, 1) := by decide +kernel
theorem d_MD_isGone_8 : decode Y_MD_isGone.2.1 8 = .ok (.iconst (5), 1) := by decide +kernel
theorem d_MD_isGone_9 : decode Y_MD_isGone.2.1 9 = .ok (.invokestatic 67, 3) := by decide +kernel
theorem d_MD_isGone_12 : decode Y_MD_isGone.2.1 12 = .ok (.iconst (1), 1) := by decide +kernel
theorem d_MD_isGone_13 : decode Y_MD_isGone.2.1 13 = .ok (.aload_n 0, 1) := by decide +kernel
theorem d_MD_isGone_14 : decode Y_MD_isGone.2.1 14 = .ok (.iconst (1), 1) := by decide +kernel
theorem d_MD_isGone_15 : decode Y_MD_isGone.2.1 15 = .ok (.iaload, 1) := by decide +kernel
theorem d_MD_isGone_16 : decode Y_MD_isGone.2.1 16 = .ok (.ishl, 1) := by decide +kernel
theorem d_MD_isGone_17 : decode Y_MD_isGone.2.1 17 = .ok (.iconst (1), 1) := by decide +kernel
theorem d_MD_isGone_18 : decode Y_MD_isGone.2.1 18 = .ok (.isub, 1) := by decide +kernel
theorem d_MD_isGone_19 : decode Y_MD_isGone.2.1 19 = .ok (.if_icmp .ne (7), 3) := by decide +kernel
theorem d_MD_isGone_22 : decode Y_MD_isGone.2.1 22 = .ok (.iconst (1), 1) := by decide +kernel
theorem d_MD_isGone_23 : decode Y_MD_isGone.2.1 23 = .ok (.goto (4), 3) := by decide +kernel
theorem d_MD_isGone_26 : decode Y_MD_isGone.2.1 26 = .ok (.iconst (0), 1) := by decide +kernel
theorem d_MD_isGone_27 : decode Y_MD_isGone.2.1 27 = .ok (.istore_n 2, 1) := by decide +kernel
theorem d_MD_isGone_28 : decode Y_MD_isGone.2.1 28 = .ok (.iload_n 2, 1) := by decide +kernel
theorem d_MD_isGone_29 : decode Y_MD_isGone.2.1 29 = .ok (.ifCond .ne (20), 3) := by decide +kernel
theorem d_MD_isGone_32 : decode Y_MD_isGone.2.1 32 = .ok (.aload_n 0, 1) := by decide +kernel
theorem d_MD_isGone_33 : decode Y_MD_isGone.2.1 33 = .ok (.iconst (3), 1) := by decide +kernel
theorem d_MD_isGone_34 : decode Y_MD_isGone.2.1 34 = .ok (.iaload, 1) := by decide +kernel
theorem d_MD_isGone_35 : decode Y_MD_isGone.2.1 35 = .ok (.aload_n 0, 1) := by decide +kernel
theorem d_MD_isGone_36 : decode Y_MD_isGone.2.1 36 = .ok (.iload_n 1, 1) := by decide +kernel
theorem d_MD_isGone_37 : decode Y_MD_isGone.2.1 37 = .ok (.iconst (3), 1) := by decide +kernel
theorem d_MD_isGone_38 : decode Y_MD_isGone.2.1 38 = .ok (.invokestatic 67, 3) := by decide +kernel
theorem d_MD_isGone_41 : decode Y_MD_isGone.2.1 41 = .ok (.isub, 1) := by decide +kernel
theorem d_MD_isGone_42 : decode Y_MD_isGone.2.1 42 = .ok (.aload_n 0, 1) := by decide +kernel
theorem d_MD_isGone_43 : decode Y_MD_isGone.2.1 43 = .ok (.bipush (10), 2) := by decide +kernel
theorem d_MD_isGone_45 : decode Y_MD_isGone.2.1 45 = .ok (.iaload, 1) := by decide +kernel
theorem d_MD_isGone_46 : decode Y_MD_isGone.2.1 46 = .ok (.if_icmp .lt (7), 3) := by decide +kernel
theorem d_MD_isGone_49 : decode Y_MD_isGone.2.1 49 = .ok (.iconst (1), 1) := by decide +kernel
theorem d_MD_isGone_50 : decode Y_MD_isGone.2.1 50 = .ok (.goto (4), 3) := by decide +kernel
theorem d_MD_isGone_53 : decode Y_MD_isGone.2.1 53 = .ok (.iconst (0), 1) := by decide +kernel
theorem d_MD_isGone_54 : decode Y_MD_isGone.2.1 54 = .ok (.ireturn, 1) := by decide +kernel
def f_MD_isGone (w : zW) (D : zD) (r0 : Nat) (x1 : Int32) : Option (Int32 × zD) := zjp (fun (s0 : Int32) (D1 : zD) => zjp (fun (s0 : Int32) (D2 : zD) => zchk (s0 = 0 ∨ s0 = 1) (some (s0, D2))) (fun j54 => zjp (fun (D3 : zD) => j54 (1 : Int32) D3) (fun j49 => (if s0 = 0 then zald w D1 0 r0 (3 : Int32) (fun v4 => zci (f_MD_pulseAt w D1 r0 x1 (3 : Int32)) (fun v5 D6 => zald w D6 0 r0 (10 : Int32) (fun v7 => (if (v4 - v5) < v7 then j54 (0 : Int32) D6 else j49 D6)))) else j49 D1)))) (fun j27 => zjp (fun (D8 : zD) => j27 (0 : Int32) D8) (fun j26 => zald w D 0 r0 (1 : Int32) (fun v9 => (if v9 ≤ 0 then j26 D else zci (f_MD_pulseAt w D r0 x1 (5 : Int32)) (fun v10 D11 => zald w D11 0 r0 (1 : Int32) (fun v12 => (if v10 = (((1 : Int32) <<< (v12 &&& 31)) - (1 : Int32)) then j27 (1 : Int32) D11 else j26 D11)))))))
set_option maxHeartbeats 4000000 in
set_option maxRecDepth 100000 in
theorem c_MD_isGone (z : zT) (D : zD) (r0 : Nat) (x1 : Int32) : zM Y_MD_isGone 2 0 0 (zqI z) (f_MD_isGone z.2 D r0 x1) [.ref r0, .int x1] z D := by
  refine zM_of (plainFor_of_name (by decide +kernel)) rfl (Nat.le_of_ble_eq_true rfl) (fun _ _ _ _ h => nomatch h.1) (fun K => ?_)
  unfold f_MD_isGone
  refine z_jp (fun j27 : Int32 → zD → Option (Int32 × zD) => ∀ (s0 : Int32) (D1 : zD), zGO K Y_MD_isGone 2 0 0 (zqI z) (j27 s0 D1) 0 0 z D1 27 [(0, .ref r0), (1, .int x1)] [.int s0]) (fun s0 D1 => ?_) (fun j27 h27 => ?_)
  · refine z_jp (fun j54 : Int32 → zD → Option (Int32 × zD) => ∀ (s0 : Int32) (D2 : zD), zGO K Y_MD_isGone 2 0 0 (zqI z) (j54 s0 D2) 0 0 z D2 54 [] [.int s0]) (fun s0 D2 => ?_) (fun j54 h54 => ?_)
    · exact z_zret (pc := 54) d_MD_isGone_54 rfl
    · refine z_jp (fun j49 : zD → Option (Int32 × zD) => ∀ (D3 : zD), zGO K Y_MD_isGone 2 0 0 (zqI z) (j49  D3) 0 0 z D3 49 [] []) (fun  D3 => ?_) (fun j49 h49 => ?_)
      · refine z_iconst (pc := 49) d_MD_isGone_49 ki_1 ?_
        refine z_goto (pc := 50) (tgt := 54) d_MD_isGone_50 (by decide) ?_
        exact z_sub [] rfl (h54 (1 : Int32) D3)
      · refine z_istore_n (pc := 27) d_MD_isGone_27 rfl (by decide) (lv' := [(2, .int s0), (0, .ref r0), (1, .int x1)]) rfl ?_
        refine z_iload_n (pc := 28) d_MD_isGone_28 rfl 0 rfl ?_
        refine z_if_ne (pc := 29) (tgt := 49) d_MD_isGone_29 (by decide) ?_ ?_
        · refine z_aload_n (pc := 32) d_MD_isGone_32 rfl 1 rfl ?_
          refine z_iconst (pc := 33) d_MD_isGone_33 ki_3 ?_
          refine z_iaload (pc := 34) d_MD_isGone_34 (fun v4 => ?_)
          refine z_aload_n (pc := 35) d_MD_isGone_35 rfl 1 rfl ?_
          refine z_iload_n (pc := 36) d_MD_isGone_36 rfl 2 rfl ?_
          refine z_iconst (pc := 37) d_MD_isGone_37 ki_3 ?_
          refine z_callSi (pc := 38) [.ref r0, .int x1, .int (3 : Int32)] lkS_MD_67 (c_MD_pulseAt z D1 r0 x1 (3 : Int32)) (by decide) rfl rfl (Nat.le_of_ble_eq_true rfl) d_MD_isGone_38 (fun v5 D6 => ?_)
          refine z_isub (pc := 41) d_MD_isGone_41 ?_
          refine z_aload_n (pc := 42) d_MD_isGone_42 rfl 1 rfl ?_
          refine z_bipush (pc := 43) d_MD_isGone_43 kb_10 ?_
          refine z_iaload (pc := 45) d_MD_isGone_45 (fun v7 => ?_)
          refine z_icmp_lt (pc := 46) (tgt := 53) d_MD_isGone_46 (by decide) ?_ ?_
          · refine z_iconst (pc := 53) d_MD_isGone_53 ki_0 ?_
            exact z_sub [] rfl (h54 (0 : Int32) D6)
          · exact z_sub [] rfl (h49 D6)
        · exact z_sub [] rfl (h49 D1)
  · refine z_jp (fun j26 : zD → Option (Int32 × zD) => ∀ (D8 : zD), zGO K Y_MD_isGone 2 0 0 (zqI z) (j26  D8) 0 0 z D8 26 [(0, .ref r0), (1, .int x1)] []) (fun  D8 => ?_) (fun j26 h26 => ?_)
    · refine z_iconst (pc := 26) d_MD_isGone_26 ki_0 ?_
      exact z_sub [0, 1] rfl (h27 (0 : Int32) D8)
    · refine z_aload_n (pc := 0) d_MD_isGone_0 rfl 0 rfl ?_
      refine z_iconst (pc := 1) d_MD_isGone_1 ki_1 ?_
      refine z_iaload (pc := 2) d_MD_isGone_2 (fun v9 => ?_)
      refine z_if_le (pc := 3) (tgt := 26) d_MD_isGone_3 (by decide) ?_ ?_
      · exact z_sub [0, 1] rfl (h26 D)
      · refine z_aload_n (pc := 6) d_MD_isGone_6 rfl 0 rfl ?_
        refine z_iload_n (pc := 7) d_MD_isGone_7 rfl 1 rfl ?_
        refine z_iconst (pc := 8) d_MD_isGone_8 ki_5 ?_
        refine z_callSi (pc := 9) [.ref r0, .int x1, .int (5 : Int32)] lkS_MD_67 (c_MD_pulseAt z D r0 x1 (5 : Int32)) (by decide) rfl rfl (Nat.le_of_ble_eq_true rfl) d_MD_isGone_9 (fun v10 D11 => ?_)
        refine z_iconst (pc := 12) d_MD_isGone_12 ki_1 ?_
        refine z_aload_n (pc := 13) d_MD_isGone_13 rfl 0 rfl ?_
        refine z_iconst (pc := 14) d_MD_isGone_14 ki_1 ?_
        refine z_iaload (pc := 15) d_MD_isGone_15 (fun v12 => ?_)
        refine z_ishl (pc := 16) d_MD_isGone_16 ?_
        refine z_iconst (pc := 17) d_MD_isGone_17 ki_1 ?_
        refine z_isub (pc := 18) d_MD_isGone_18 ?_
        refine z_icmp_ne (pc := 19) (tgt := 26) d_MD_isGone_19 (by decide) ?_ ?_
        · refine z_iconst (pc := 22) d_MD_isGone_22 ki_1 ?_
          refine z_goto (pc := 23) (tgt := 27) d_MD_isGone_23 (by decide) ?_
          exact z_sub [0, 1] rfl (h27 (1 : Int32) D11)
        · exact z_sub [0, 1] rfl (h26 D11)
theorem d_MD_walks_0 : decode Y_MD_walks.2.1 0 = .ok (.bipush (39), 2) := by decide +kernel
theorem d_MD_walks_2 : decode Y_MD_walks.2.1 2 = .ok (.iconst (5), 1) := by decide +kernel
theorem d_MD_walks_3 : decode Y_MD_walks.2.1 3 = .ok (.iload_n 1, 1) := by decide +kernel
theorem d_MD_walks_4 : decode Y_MD_walks.2.1 4 = .ok (.imul, 1) := by decide +kernel
theorem d_MD_walks_5 : decode Y_MD_walks.2.1 5 = .ok (.iadd, 1) := by decide +kernel
theorem d_MD_walks_6 : decode Y_MD_walks.2.1 6 = .ok (.iload_n 2, 1) := by decide +kernel
theorem d_MD_walks_7 : decode Y_MD_walks.2.1 7 = .ok (.iadd, 1) := by decide +kernel
theorem d_MD_walks_8 : decode Y_MD_walks.2.1 8 = .ok (.istore_n 3, 1) := by decide +kernel
theorem d_MD_walks_9 : decode Y_MD_walks.2.1 9 = .ok (.aload_n 0, 1) := by decide +kernel
theorem d_MD_walks_10 : decode Y_MD_walks.2.1 10 = .ok (.iload_n 3, 1) := by decide +kernel
theorem d_MD_walks_11 : decode Y_MD_walks.2.1 11 = .ok (.iaload, 1) := by decide +kernel
theorem d_MD_walks_12 : decode Y_MD_walks.2.1 12 = .ok (.aload_n 0, 1) := by decide +kernel
theorem d_MD_walks_13 : decode Y_MD_walks.2.1 13 = .ok (.iload_n 3, 1) := by decide +kernel
theorem d_MD_walks_14 : decode Y_MD_walks.2.1 14 = .ok (.iconst (2), 1) := by decide +kernel
theorem d_MD_walks_15 : decode Y_MD_walks.2.1 15 = .ok (.iadd, 1) := by decide +kernel
theorem d_MD_walks_16 : decode Y_MD_walks.2.1 16 = .ok (.iaload, 1) := by decide +kernel
theorem d_MD_walks_17 : decode Y_MD_walks.2.1 17 = .ok (.iadd, 1) := by decide +kernel
theorem d_MD_walks_18 : decode Y_MD_walks.2.1 18 = .ok (.istore 4, 2) := by decide +kernel
theorem d_MD_walks_20 : decode Y_MD_walks.2.1 20 = .ok (.iload 4, 2) := by decide +kernel
theorem d_MD_walks_22 : decode Y_MD_walks.2.1 22 = .ok (.invokestatic 73, 3) := by decide +kernel
theorem d_MD_walks_25 : decode Y_MD_walks.2.1 25 = .ok (.bipush (40), 2) := by decide +kernel
theorem d_MD_walks_27 : decode Y_MD_walks.2.1 27 = .ok (.if_icmp .le (28), 3) := by decide +kernel
theorem d_MD_walks_30 : decode Y_MD_walks.2.1 30 = .ok (.iload 4, 2) := by decide +kernel
theorem d_MD_walks_32 : decode Y_MD_walks.2.1 32 = .ok (.ifCond .ge (8), 3) := by decide +kernel
theorem d_MD_walks_35 : decode Y_MD_walks.2.1 35 = .ok (.bipush (-40), 2) := by decide +kernel
theorem d_MD_walks_37 : decode Y_MD_walks.2.1 37 = .ok (.goto (5), 3) := by decide +kernel
theorem d_MD_walks_40 : decode Y_MD_walks.2.1 40 = .ok (.bipush (40), 2) := by decide +kernel
theorem d_MD_walks_42 : decode Y_MD_walks.2.1 42 = .ok (.istore 4, 2) := by decide +kernel
theorem d_MD_walks_44 : decode Y_MD_walks.2.1 44 = .ok (.aload_n 0, 1) := by decide +kernel
theorem d_MD_walks_45 : decode Y_MD_walks.2.1 45 = .ok (.iload_n 3, 1) := by decide +kernel
theorem d_MD_walks_46 : decode Y_MD_walks.2.1 46 = .ok (.iconst (2), 1) := by decide +kernel
theorem d_MD_walks_47 : decode Y_MD_walks.2.1 47 = .ok (.iadd, 1) := by decide +kernel
theorem d_MD_walks_48 : decode Y_MD_walks.2.1 48 = .ok (.aload_n 0, 1) := by decide +kernel
theorem d_MD_walks_49 : decode Y_MD_walks.2.1 49 = .ok (.iload_n 3, 1) := by decide +kernel
theorem d_MD_walks_50 : decode Y_MD_walks.2.1 50 = .ok (.iconst (2), 1) := by decide +kernel
theorem d_MD_walks_51 : decode Y_MD_walks.2.1 51 = .ok (.iadd, 1) := by decide +kernel
theorem d_MD_walks_52 : decode Y_MD_walks.2.1 52 = .ok (.iaload, 1) := by decide +kernel
theorem d_MD_walks_53 : decode Y_MD_walks.2.1 53 = .ok (.ineg, 1) := by decide +kernel
theorem d_MD_walks_54 : decode Y_MD_walks.2.1 54 = .ok (.iastore, 1) := by decide +kernel
theorem d_MD_walks_55 : decode Y_MD_walks.2.1 55 = .ok (.aload_n 0, 1) := by decide +kernel
theorem d_MD_walks_56 : decode Y_MD_walks.2.1 56 = .ok (.iload_n 3, 1) := by decide +kernel
theorem d_MD_walks_57 : decode Y_MD_walks.2.1 57 = .ok (.iload 4, 2) := by decide +kernel
theorem d_MD_walks_59 : decode Y_MD_walks.2.1 59 = .ok (.iastore, 1) := by decide +kernel
theorem d_MD_walks_60 : decode Y_MD_walks.2.1 60 = .ok (.return_, 1) := by decide +kernel
def f_MD_walks (w : zW) (D : zD) (r0 : Nat) (x1 : Int32) (x2 : Int32) : Option (zD) := zjp (fun (x3 : Int32) (x4 : Int32) (D1 : zD) => zast w D1 0 r0 x3 x4 (fun D2 => some D2)) (fun j55 => zlet (((39 : Int32) + ((5 : Int32) * x1)) + x2) (fun v3 => zald w D 0 r0 v3 (fun v4 => zald w D 0 r0 (v3 + (2 : Int32)) (fun v5 => zlet (v4 + v5) (fun v6 => zci (f_MD_without w D v6) (fun v7 D8 => (if v7 ≤ (40 : Int32) then j55 v3 v6 D8 else zjp (fun (x3 : Int32) (s0 : Int32) (D9 : zD) => zald w D9 0 r0 (x3 + (2 : Int32)) (fun v10 => zast w D9 0 r0 (x3 + (2 : Int32)) (-v10) (fun D11 => j55 x3 s0 D11))) (fun j42 => (if 0 ≤ v6 then j42 v3 (40 : Int32) D8 else j42 v3 (-40 : Int32) D8)))))))))
set_option maxHeartbeats 4000000 in
set_option maxRecDepth 100000 in
theorem c_MD_walks (z : zT) (D : zD) (r0 : Nat) (x1 : Int32) (x2 : Int32) : zM Y_MD_walks 2 0 0 (zqV z) (f_MD_walks z.2 D r0 x1 x2) [.ref r0, .int x1, .int x2] z D := by
  refine zM_of (plainFor_of_name (by decide +kernel)) rfl (Nat.le_of_ble_eq_true rfl) (fun _ _ _ _ h => nomatch h.1) (fun K => ?_)
  unfold f_MD_walks
  refine z_jp (fun j55 : Int32 → Int32 → zD → Option (zD) => ∀ (x3 : Int32) (x4 : Int32) (D1 : zD), zGO K Y_MD_walks 2 0 0 (zqV z) (j55 x3 x4 D1) 0 0 z D1 55 [(0, .ref r0), (3, .int x3), (4, .int x4)] []) (fun x3 x4 D1 => ?_) (fun j55 h55 => ?_)
  · refine z_aload_n (pc := 55) d_MD_walks_55 rfl 0 rfl ?_
    refine z_iload_n (pc := 56) d_MD_walks_56 rfl 1 rfl ?_
    refine z_iload (pc := 57) d_MD_walks_57 2 rfl ?_
    refine z_iastore (pc := 59) d_MD_walks_59 (fun D2 => ?_)
    exact z_vret (pc := 60) d_MD_walks_60 rfl
  · refine z_bipush (pc := 0) d_MD_walks_0 kb_39 ?_
    refine z_iconst (pc := 2) d_MD_walks_2 ki_5 ?_
    refine z_iload_n (pc := 3) d_MD_walks_3 rfl 1 rfl ?_
    refine z_imul (pc := 4) d_MD_walks_4 ?_
    refine z_iadd (pc := 5) d_MD_walks_5 ?_
    refine z_iload_n (pc := 6) d_MD_walks_6 rfl 2 rfl ?_
    refine z_iadd (pc := 7) d_MD_walks_7 ?_
    refine z_leti (fun v3 => ?_)
    refine z_istore_n (pc := 8) d_MD_walks_8 rfl (by decide) (lv' := [(3, .int v3), (0, .ref r0), (1, .int x1), (2, .int x2)]) rfl ?_
    refine z_aload_n (pc := 9) d_MD_walks_9 rfl 1 rfl ?_
    refine z_iload_n (pc := 10) d_MD_walks_10 rfl 0 rfl ?_
    refine z_iaload (pc := 11) d_MD_walks_11 (fun v4 => ?_)
    refine z_aload_n (pc := 12) d_MD_walks_12 rfl 1 rfl ?_
    refine z_iload_n (pc := 13) d_MD_walks_13 rfl 0 rfl ?_
    refine z_iconst (pc := 14) d_MD_walks_14 ki_2 ?_
    refine z_iadd (pc := 15) d_MD_walks_15 ?_
    refine z_iaload (pc := 16) d_MD_walks_16 (fun v5 => ?_)
    refine z_iadd (pc := 17) d_MD_walks_17 ?_
    refine z_leti (fun v6 => ?_)
    refine z_istore (pc := 18) d_MD_walks_18 (by decide) (lv' := [(4, .int v6), (3, .int v3), (0, .ref r0), (1, .int x1), (2, .int x2)]) rfl ?_
    refine z_iload (pc := 20) d_MD_walks_20 0 rfl ?_
    refine z_callSi (pc := 22) [.int v6] lkS_MD_73 (c_MD_without z D v6) (by decide) rfl rfl (Nat.le_of_ble_eq_true rfl) d_MD_walks_22 (fun v7 D8 => ?_)
    refine z_bipush (pc := 25) d_MD_walks_25 kb_40 ?_
    refine z_icmp_le (pc := 27) (tgt := 55) d_MD_walks_27 (by decide) ?_ ?_
    · exact z_sub [2, 1, 0] rfl (h55 v3 v6 D8)
    · refine z_jp (fun j42 : Int32 → Int32 → zD → Option (zD) => ∀ (x3 : Int32) (s0 : Int32) (D9 : zD), zGO K Y_MD_walks 2 0 0 (zqV z) (j42 x3 s0 D9) 0 0 z D9 42 [(0, .ref r0), (3, .int x3)] [.int s0]) (fun x3 s0 D9 => ?_) (fun j42 h42 => ?_)
      · refine z_istore (pc := 42) d_MD_walks_42 (by decide) (lv' := [(4, .int s0), (0, .ref r0), (3, .int x3)]) rfl ?_
        refine z_aload_n (pc := 44) d_MD_walks_44 rfl 1 rfl ?_
        refine z_iload_n (pc := 45) d_MD_walks_45 rfl 2 rfl ?_
        refine z_iconst (pc := 46) d_MD_walks_46 ki_2 ?_
        refine z_iadd (pc := 47) d_MD_walks_47 ?_
        refine z_aload_n (pc := 48) d_MD_walks_48 rfl 1 rfl ?_
        refine z_iload_n (pc := 49) d_MD_walks_49 rfl 2 rfl ?_
        refine z_iconst (pc := 50) d_MD_walks_50 ki_2 ?_
        refine z_iadd (pc := 51) d_MD_walks_51 ?_
        refine z_iaload (pc := 52) d_MD_walks_52 (fun v10 => ?_)
        refine z_ineg (pc := 53) d_MD_walks_53 ?_
        refine z_iastore (pc := 54) d_MD_walks_54 (fun D11 => ?_)
        exact z_sub [1, 2, 0] rfl (h55 x3 s0 D11)
      · refine z_iload (pc := 30) d_MD_walks_30 0 rfl ?_
        refine z_if_ge (pc := 32) (tgt := 40) d_MD_walks_32 (by decide) ?_ ?_
        · refine z_bipush (pc := 40) d_MD_walks_40 kb_40 ?_
          exact z_sub [2, 1] rfl (h42 v3 (40 : Int32) D8)
        · refine z_bipush (pc := 35) d_MD_walks_35 kb_m40 ?_
          refine z_goto (pc := 37) (tgt := 42) d_MD_walks_37 (by decide) ?_
          exact z_sub [2, 1] rfl (h42 v3 (-40 : Int32) D8)
theorem d_MD_isCentre_0 : decode Y_MD_isCentre.2.1 0 = .ok (.iload_n 0, 1) := by decide +kernel
theorem d_MD_isCentre_1 : decode Y_MD_isCentre.2.1 1 = .ok (.i2l, 1) := by decide +kernel
theorem d_MD_isCentre_2 : decode Y_MD_isCentre.2.1 2 = .ok (.ldc2_w 110, 3) := by decide +kernel
theorem d_MD_isCentre_5 : decode Y_MD_isCentre.2.1 5 = .ok (.ldc2_w 112, 3) := by decide +kernel
theorem d_MD_isCentre_8 : decode Y_MD_isCentre.2.1 8 = .ok (.invokestatic 37, 3) := by decide +kernel
theorem d_MD_isCentre_11 : decode Y_MD_isCentre.2.1 11 = .ok (.ifCond .eq (21), 3) := by decide +kernel
theorem d_MD_isCentre_14 : decode Y_MD_isCentre.2.1 14 = .ok (.iload_n 1, 1) := by decide +kernel
theorem d_MD_isCentre_15 : decode Y_MD_isCentre.2.1 15 = .ok (.i2l, 1) := by decide +kernel
theorem d_MD_isCentre_16 : decode Y_MD_isCentre.2.1 16 = .ok (.ldc2_w 110, 3) := by decide +kernel
theorem d_MD_isCentre_19 : decode Y_MD_isCentre.2.1 19 = .ok (.ldc2_w 112, 3) := by decide +kernel
theorem d_MD_isCentre_22 : decode Y_MD_isCentre.2.1 22 = .ok (.invokestatic 37, 3) := by decide +kernel
theorem d_MD_isCentre_25 : decode Y_MD_isCentre.2.1 25 = .ok (.ifCond .eq (7), 3) := by decide +kernel
theorem d_MD_isCentre_28 : decode Y_MD_isCentre.2.1 28 = .ok (.iconst (1), 1) := by decide +kernel
theorem d_MD_isCentre_29 : decode Y_MD_isCentre.2.1 29 = .ok (.goto (4), 3) := by decide +kernel
theorem d_MD_isCentre_32 : decode Y_MD_isCentre.2.1 32 = .ok (.iconst (0), 1) := by decide +kernel
theorem d_MD_isCentre_33 : decode Y_MD_isCentre.2.1 33 = .ok (.ireturn, 1) := by decide +kernel
def f_MD_isCentre (w : zW) (D : zD) (x0 : Int32) (x1 : Int32) : Option (Int32 × zD) := zjp (fun (s0 : Int32) (D1 : zD) => zchk (s0 = 0 ∨ s0 = 1) (some (s0, D1))) (fun j33 => zjp (fun (D2 : zD) => j33 (0 : Int32) D2) (fun j32 => zci (f_MD_in w D x0.toInt64 (-30 : Int64) (30 : Int64)) (fun v3 D4 => (if v3 = 0 then j32 D4 else zci (f_MD_in w D4 x1.toInt64 (-30 : Int64) (30 : Int64)) (fun v5 D6 => (if v5 = 0 then j32 D6 else j33 (1 : Int32) D6))))))
set_option maxHeartbeats 4000000 in
set_option maxRecDepth 100000 in
theorem c_MD_isCentre (z : zT) (D : zD) (x0 : Int32) (x1 : Int32) : zM Y_MD_isCentre 2 0 0 (zqI z) (f_MD_isCentre z.2 D x0 x1) [.int x0, .int x1] z D := by
  refine zM_of (plainFor_of_name (by decide +kernel)) rfl (Nat.le_of_ble_eq_true rfl) (fun _ _ _ _ h => nomatch h.1) (fun K => ?_)
  unfold f_MD_isCentre
  refine z_jp (fun j33 : Int32 → zD → Option (Int32 × zD) => ∀ (s0 : Int32) (D1 : zD), zGO K Y_MD_isCentre 2 0 0 (zqI z) (j33 s0 D1) 0 0 z D1 33 [] [.int s0]) (fun s0 D1 => ?_) (fun j33 h33 => ?_)
  · exact z_zret (pc := 33) d_MD_isCentre_33 rfl
  · refine z_jp (fun j32 : zD → Option (Int32 × zD) => ∀ (D2 : zD), zGO K Y_MD_isCentre 2 0 0 (zqI z) (j32  D2) 0 0 z D2 32 [] []) (fun  D2 => ?_) (fun j32 h32 => ?_)
    · refine z_iconst (pc := 32) d_MD_isCentre_32 ki_0 ?_
      exact z_sub [] rfl (h33 (0 : Int32) D2)
    · refine z_iload_n (pc := 0) d_MD_isCentre_0 rfl 0 rfl ?_
      refine z_i2l (pc := 1) d_MD_isCentre_1 ?_
      refine z_ldc2 (pc := 2) w_k_MD_110 d_MD_isCentre_2 ?_
      refine z_ldc2 (pc := 5) w_k_MD_112 d_MD_isCentre_5 ?_
      refine z_callSi (pc := 8) [.long x0.toInt64, .long (-30 : Int64), .long (30 : Int64)] lkS_MD_37 (c_MD_in z D x0.toInt64 (-30 : Int64) (30 : Int64)) (by decide) rfl rfl (Nat.le_of_ble_eq_true rfl) d_MD_isCentre_8 (fun v3 D4 => ?_)
      refine z_if_eq (pc := 11) (tgt := 32) d_MD_isCentre_11 (by decide) ?_ ?_
      · exact z_sub [] rfl (h32 D4)
      · refine z_iload_n (pc := 14) d_MD_isCentre_14 rfl 1 rfl ?_
        refine z_i2l (pc := 15) d_MD_isCentre_15 ?_
        refine z_ldc2 (pc := 16) w_k_MD_110 d_MD_isCentre_16 ?_
        refine z_ldc2 (pc := 19) w_k_MD_112 d_MD_isCentre_19 ?_
        refine z_callSi (pc := 22) [.long x1.toInt64, .long (-30 : Int64), .long (30 : Int64)] lkS_MD_37 (c_MD_in z D4 x1.toInt64 (-30 : Int64) (30 : Int64)) (by decide) rfl rfl (Nat.le_of_ble_eq_true rfl) d_MD_isCentre_22 (fun v5 D6 => ?_)
        refine z_if_eq (pc := 25) (tgt := 32) d_MD_isCentre_25 (by decide) ?_ ?_
        · exact z_sub [] rfl (h32 D6)
        · refine z_iconst (pc := 28) d_MD_isCentre_28 ki_1 ?_
          refine z_goto (pc := 29) (tgt := 33) d_MD_isCentre_29 (by decide) ?_
          exact z_sub [] rfl (h33 (1 : Int32) D6)
theorem d_MD_isWay_0 : decode Y_MD_isWay.2.1 0 = .ok (.iload_n 0, 1) := by decide +kernel
theorem d_MD_isWay_1 : decode Y_MD_isWay.2.1 1 = .ok (.i2l, 1) := by decide +kernel
theorem d_MD_isWay_2 : decode Y_MD_isWay.2.1 2 = .ok (.ldc2_w 114, 3) := by decide +kernel
theorem d_MD_isWay_5 : decode Y_MD_isWay.2.1 5 = .ok (.ldc2_w 116, 3) := by decide +kernel
theorem d_MD_isWay_8 : decode Y_MD_isWay.2.1 8 = .ok (.invokestatic 37, 3) := by decide +kernel
theorem d_MD_isWay_11 : decode Y_MD_isWay.2.1 11 = .ok (.ifCond .eq (21), 3) := by decide +kernel
theorem d_MD_isWay_14 : decode Y_MD_isWay.2.1 14 = .ok (.iload_n 1, 1) := by decide +kernel
theorem d_MD_isWay_15 : decode Y_MD_isWay.2.1 15 = .ok (.i2l, 1) := by decide +kernel
theorem d_MD_isWay_16 : decode Y_MD_isWay.2.1 16 = .ok (.ldc2_w 114, 3) := by decide +kernel
theorem d_MD_isWay_19 : decode Y_MD_isWay.2.1 19 = .ok (.ldc2_w 116, 3) := by decide +kernel
theorem d_MD_isWay_22 : decode Y_MD_isWay.2.1 22 = .ok (.invokestatic 37, 3) := by decide +kernel
theorem d_MD_isWay_25 : decode Y_MD_isWay.2.1 25 = .ok (.ifCond .eq (7), 3) := by decide +kernel
theorem d_MD_isWay_28 : decode Y_MD_isWay.2.1 28 = .ok (.iconst (1), 1) := by decide +kernel
theorem d_MD_isWay_29 : decode Y_MD_isWay.2.1 29 = .ok (.goto (4), 3) := by decide +kernel
theorem d_MD_isWay_32 : decode Y_MD_isWay.2.1 32 = .ok (.iconst (0), 1) := by decide +kernel
theorem d_MD_isWay_33 : decode Y_MD_isWay.2.1 33 = .ok (.ireturn, 1) := by decide +kernel
def f_MD_isWay (w : zW) (D : zD) (x0 : Int32) (x1 : Int32) : Option (Int32 × zD) := zjp (fun (s0 : Int32) (D1 : zD) => zchk (s0 = 0 ∨ s0 = 1) (some (s0, D1))) (fun j33 => zjp (fun (D2 : zD) => j33 (0 : Int32) D2) (fun j32 => zci (f_MD_in w D x0.toInt64 (-2 : Int64) (2 : Int64)) (fun v3 D4 => (if v3 = 0 then j32 D4 else zci (f_MD_in w D4 x1.toInt64 (-2 : Int64) (2 : Int64)) (fun v5 D6 => (if v5 = 0 then j32 D6 else j33 (1 : Int32) D6))))))
set_option maxHeartbeats 4000000 in
set_option maxRecDepth 100000 in
theorem c_MD_isWay (z : zT) (D : zD) (x0 : Int32) (x1 : Int32) : zM Y_MD_isWay 2 0 0 (zqI z) (f_MD_isWay z.2 D x0 x1) [.int x0, .int x1] z D := by
  refine zM_of (plainFor_of_name (by decide +kernel)) rfl (Nat.le_of_ble_eq_true rfl) (fun _ _ _ _ h => nomatch h.1) (fun K => ?_)
  unfold f_MD_isWay
  refine z_jp (fun j33 : Int32 → zD → Option (Int32 × zD) => ∀ (s0 : Int32) (D1 : zD), zGO K Y_MD_isWay 2 0 0 (zqI z) (j33 s0 D1) 0 0 z D1 33 [] [.int s0]) (fun s0 D1 => ?_) (fun j33 h33 => ?_)
  · exact z_zret (pc := 33) d_MD_isWay_33 rfl
  · refine z_jp (fun j32 : zD → Option (Int32 × zD) => ∀ (D2 : zD), zGO K Y_MD_isWay 2 0 0 (zqI z) (j32  D2) 0 0 z D2 32 [] []) (fun  D2 => ?_) (fun j32 h32 => ?_)
    · refine z_iconst (pc := 32) d_MD_isWay_32 ki_0 ?_
      exact z_sub [] rfl (h33 (0 : Int32) D2)
    · refine z_iload_n (pc := 0) d_MD_isWay_0 rfl 0 rfl ?_
      refine z_i2l (pc := 1) d_MD_isWay_1 ?_
      refine z_ldc2 (pc := 2) w_k_MD_114 d_MD_isWay_2 ?_
      refine z_ldc2 (pc := 5) w_k_MD_116 d_MD_isWay_5 ?_
      refine z_callSi (pc := 8) [.long x0.toInt64, .long (-2 : Int64), .long (2 : Int64)] lkS_MD_37 (c_MD_in z D x0.toInt64 (-2 : Int64) (2 : Int64)) (by decide) rfl rfl (Nat.le_of_ble_eq_true rfl) d_MD_isWay_8 (fun v3 D4 => ?_)
      refine z_if_eq (pc := 11) (tgt := 32) d_MD_isWay_11 (by decide) ?_ ?_
      · exact z_sub [] rfl (h32 D4)
      · refine z_iload_n (pc := 14) d_MD_isWay_14 rfl 1 rfl ?_
        refine z_i2l (pc := 15) d_MD_isWay_15 ?_
        refine z_ldc2 (pc := 16) w_k_MD_114 d_MD_isWay_16 ?_
        refine z_ldc2 (pc := 19) w_k_MD_116 d_MD_isWay_19 ?_
        refine z_callSi (pc := 22) [.long x1.toInt64, .long (-2 : Int64), .long (2 : Int64)] lkS_MD_37 (c_MD_in z D4 x1.toInt64 (-2 : Int64) (2 : Int64)) (by decide) rfl rfl (Nat.le_of_ble_eq_true rfl) d_MD_isWay_22 (fun v5 D6 => ?_)
        refine z_if_eq (pc := 25) (tgt := 32) d_MD_isWay_25 (by decide) ?_ ?_
        · exact z_sub [] rfl (h32 D6)
        · refine z_iconst (pc := 28) d_MD_isWay_28 ki_1 ?_
          refine z_goto (pc := 29) (tgt := 33) d_MD_isWay_29 (by decide) ?_
          exact z_sub [] rfl (h33 (1 : Int32) D6)
theorem d_MD_isPlace_0 : decode Y_MD_isPlace.2.1 0 = .ok (.iload_n 0, 1) := by decide +kernel
theorem d_MD_isPlace_1 : decode Y_MD_isPlace.2.1 1 = .ok (.i2l, 1) := by decide +kernel
theorem d_MD_isPlace_2 : decode Y_MD_isPlace.2.1 2 = .ok (.ldc2_w 118, 3) := by decide +kernel
theorem d_MD_isPlace_5 : decode Y_MD_isPlace.2.1 5 = .ok (.ldc2_w 120, 3) := by decide +kernel
theorem d_MD_isPlace_8 : decode Y_MD_isPlace.2.1 8 = .ok (.invokestatic 37, 3) := by decide +kernel
theorem d_MD_isPlace_11 : decode Y_MD_isPlace.2.1 11 = .ok (.ifCond .eq (21), 3) := by decide +kernel
theorem d_MD_isPlace_14 : decode Y_MD_isPlace.2.1 14 = .ok (.iload_n 1, 1) := by decide +kernel
theorem d_MD_isPlace_15 : decode Y_MD_isPlace.2.1 15 = .ok (.i2l, 1) := by decide +kernel
theorem d_MD_isPlace_16 : decode Y_MD_isPlace.2.1 16 = .ok (.ldc2_w 118, 3) := by decide +kernel
theorem d_MD_isPlace_19 : decode Y_MD_isPlace.2.1 19 = .ok (.ldc2_w 120, 3) := by decide +kernel
theorem d_MD_isPlace_22 : decode Y_MD_isPlace.2.1 22 = .ok (.invokestatic 37, 3) := by decide +kernel
theorem d_MD_isPlace_25 : decode Y_MD_isPlace.2.1 25 = .ok (.ifCond .eq (7), 3) := by decide +kernel
theorem d_MD_isPlace_28 : decode Y_MD_isPlace.2.1 28 = .ok (.iconst (1), 1) := by decide +kernel
theorem d_MD_isPlace_29 : decode Y_MD_isPlace.2.1 29 = .ok (.goto (4), 3) := by decide +kernel
theorem d_MD_isPlace_32 : decode Y_MD_isPlace.2.1 32 = .ok (.iconst (0), 1) := by decide +kernel
theorem d_MD_isPlace_33 : decode Y_MD_isPlace.2.1 33 = .ok (.ireturn, 1) := by decide +kernel
def f_MD_isPlace (w : zW) (D : zD) (x0 : Int32) (x1 : Int32) : Option (Int32 × zD) := zjp (fun (s0 : Int32) (D1 : zD) => zchk (s0 = 0 ∨ s0 = 1) (some (s0, D1))) (fun j33 => zjp (fun (D2 : zD) => j33 (0 : Int32) D2) (fun j32 => zci (f_MD_in w D x0.toInt64 (-40 : Int64) (40 : Int64)) (fun v3 D4 => (if v3 = 0 then j32 D4 else zci (f_MD_in w D4 x1.toInt64 (-40 : Int64) (40 : Int64)) (fun v5 D6 => (if v5 = 0 then j32 D6 else j33 (1 : Int32) D6))))))
set_option maxHeartbeats 4000000 in
set_option maxRecDepth 100000 in
theorem c_MD_isPlace (z : zT) (D : zD) (x0 : Int32) (x1 : Int32) : zM Y_MD_isPlace 2 0 0 (zqI z) (f_MD_isPlace z.2 D x0 x1) [.int x0, .int x1] z D := by
  refine zM_of (plainFor_of_name (by decide +kernel)) rfl (Nat.le_of_ble_eq_true rfl) (fun _ _ _ _ h => nomatch h.1) (fun K => ?_)
  unfold f_MD_isPlace
  refine z_jp (fun j33 : Int32 → zD → Option (Int32 × zD) => ∀ (s0 : Int32) (D1 : zD), zGO K Y_MD_isPlace 2 0 0 (zqI z) (j33 s0 D1) 0 0 z D1 33 [] [.int s0]) (fun s0 D1 => ?_) (fun j33 h33 => ?_)
  · exact z_zret (pc := 33) d_MD_isPlace_33 rfl
  · refine z_jp (fun j32 : zD → Option (Int32 × zD) => ∀ (D2 : zD), zGO K Y_MD_isPlace 2 0 0 (zqI z) (j32  D2) 0 0 z D2 32 [] []) (fun  D2 => ?_) (fun j32 h32 => ?_)
    · refine z_iconst (pc := 32) d_MD_isPlace_32 ki_0 ?_
      exact z_sub [] rfl (h33 (0 : Int32) D2)
    · refine z_iload_n (pc := 0) d_MD_isPlace_0 rfl 0 rfl ?_
      refine z_i2l (pc := 1) d_MD_isPlace_1 ?_
      refine z_ldc2 (pc := 2) w_k_MD_118 d_MD_isPlace_2 ?_
      refine z_ldc2 (pc := 5) w_k_MD_120 d_MD_isPlace_5 ?_
      refine z_callSi (pc := 8) [.long x0.toInt64, .long (-40 : Int64), .long (40 : Int64)] lkS_MD_37 (c_MD_in z D x0.toInt64 (-40 : Int64) (40 : Int64)) (by decide) rfl rfl (Nat.le_of_ble_eq_true rfl) d_MD_isPlace_8 (fun v3 D4 => ?_)
      refine z_if_eq (pc := 11) (tgt := 32) d_MD_isPlace_11 (by decide) ?_ ?_
      · exact z_sub [] rfl (h32 D4)
      · refine z_iload_n (pc := 14) d_MD_isPlace_14 rfl 1 rfl ?_
        refine z_i2l (pc := 15) d_MD_isPlace_15 ?_
        refine z_ldc2 (pc := 16) w_k_MD_118 d_MD_isPlace_16 ?_
        refine z_ldc2 (pc := 19) w_k_MD_120 d_MD_isPlace_19 ?_
        refine z_callSi (pc := 22) [.long x1.toInt64, .long (-40 : Int64), .long (40 : Int64)] lkS_MD_37 (c_MD_in z D4 x1.toInt64 (-40 : Int64) (40 : Int64)) (by decide) rfl rfl (Nat.le_of_ble_eq_true rfl) d_MD_isPlace_22 (fun v5 D6 => ?_)
        refine z_if_eq (pc := 25) (tgt := 32) d_MD_isPlace_25 (by decide) ?_ ?_
        · exact z_sub [] rfl (h32 D6)
        · refine z_iconst (pc := 28) d_MD_isPlace_28 ki_1 ?_
          refine z_goto (pc := 29) (tgt := 33) d_MD_isPlace_29 (by decide) ?_
          exact z_sub [] rfl (h33 (1 : Int32) D6)
theorem d_MD_turnOn_0 : decode Y_MD_turnOn.2.1 0 = .ok (.aload_n 0, 1) := by decide +kernel
theorem d_MD_turnOn_1 : decode Y_MD_turnOn.2.1 1 = .ok (.bipush (11), 2) := by decide +kernel
theorem d_MD_turnOn_3 : decode Y_MD_turnOn.2.1 3 = .ok (.bipush (7), 2) := by decide +kernel
theorem d_MD_turnOn_5 : decode Y_MD_turnOn.2.1 5 = .ok (.iload_n 1, 1) := by decide +kernel
theorem d_MD_turnOn_6 : decode Y_MD_turnOn.2.1 6 = .ok (.imul, 1) := by decide +kernel
theorem d_MD_turnOn_7 : decode Y_MD_turnOn.2.1 7 = .ok (.iadd, 1) := by decide +kernel
theorem d_MD_turnOn_8 : decode Y_MD_turnOn.2.1 8 = .ok (.iconst (5), 1) := by decide +kernel
theorem d_MD_turnOn_9 : decode Y_MD_turnOn.2.1 9 = .ok (.iadd, 1) := by decide +kernel
theorem d_MD_turnOn_10 : decode Y_MD_turnOn.2.1 10 = .ok (.iload_n 2, 1) := by decide +kernel
theorem d_MD_turnOn_11 : decode Y_MD_turnOn.2.1 11 = .ok (.ifCond .eq (7), 3) := by decide +kernel
theorem d_MD_turnOn_14 : decode Y_MD_turnOn.2.1 14 = .ok (.iconst (1), 1) := by decide +kernel
theorem d_MD_turnOn_15 : decode Y_MD_turnOn.2.1 15 = .ok (.goto (4), 3) := by decide +kernel
theorem d_MD_turnOn_18 : decode Y_MD_turnOn.2.1 18 = .ok (.iconst (0), 1) := by decide +kernel
theorem d_MD_turnOn_19 : decode Y_MD_turnOn.2.1 19 = .ok (.iastore, 1) := by decide +kernel
theorem d_MD_turnOn_20 : decode Y_MD_turnOn.2.1 20 = .ok (.iconst (0), 1) := by decide +kernel
theorem d_MD_turnOn_21 : decode Y_MD_turnOn.2.1 21 = .ok (.istore_n 3, 1) := by decide +kernel
theorem d_MD_turnOn_22 : decode Y_MD_turnOn.2.1 22 = .ok (.iconst (0), 1) := by decide +kernel
theorem d_MD_turnOn_23 : decode Y_MD_turnOn.2.1 23 = .ok (.istore 4, 2) := by decide +kernel
theorem d_MD_turnOn_25 : decode Y_MD_turnOn.2.1 25 = .ok (.iload 4, 2) := by decide +kernel
theorem d_MD_turnOn_27 : decode Y_MD_turnOn.2.1 27 = .ok (.aload_n 0, 1) := by decide +kernel
theorem d_MD_turnOn_28 : decode Y_MD_turnOn.2.1 28 = .ok (.iconst (0), 1) := by decide +kernel
theorem d_MD_turnOn_29 : decode Y_MD_turnOn.2.1 29 = .ok (.iaload, 1) := by decide +kernel
theorem d_MD_turnOn_30 : decode Y_MD_turnOn.2.1 30 = .ok (.if_icmp .ge (19), 3) := by decide +kernel
theorem d_MD_turnOn_33 : decode Y_MD_turnOn.2.1 33 = .ok (.iload_n 3, 1) := by decide +kernel
theorem d_MD_turnOn_34 : decode Y_MD_turnOn.2.1 34 = .ok (.aload_n 0, 1) := by decide +kernel
theorem d_MD_turnOn_35 : decode Y_MD_turnOn.2.1 35 = .ok (.iload 4, 2) := by decide +kernel
theorem d_MD_turnOn_37 : decode Y_MD_turnOn.2.1 37 = .ok (.iconst (5), 1) := by decide +kernel
theorem d_MD_turnOn_38 : decode Y_MD_turnOn.2.1 38 = .ok (.invokestatic 45, 3) := by decide +kernel
theorem d_MD_turnOn_41 : decode Y_MD_turnOn.2.1 41 = .ok (.iadd, 1) := by decide +kernel
theorem d_MD_turnOn_42 : decode Y_MD_turnOn.2.1 42 = .ok (.istore_n 3, 1) := by decide +kernel
theorem d_MD_turnOn_43 : decode Y_MD_turnOn.2.1 43 = .ok (.iinc 4 (1), 3) := by decide +kernel
theorem d_MD_turnOn_46 : decode Y_MD_turnOn.2.1 46 = .ok (.goto (-21), 3) := by decide +kernel
theorem d_MD_turnOn_49 : decode Y_MD_turnOn.2.1 49 = .ok (.iload_n 3, 1) := by decide +kernel
theorem d_MD_turnOn_50 : decode Y_MD_turnOn.2.1 50 = .ok (.ireturn, 1) := by decide +kernel
def f_MD_turnOn (w : zW) (D : zD) (r0 : Nat) (x1 : Int32) (x2 : Int32) : Option (Int32 × zD) := zjp (fun (s0 : Nat) (s1 : Int32) (s2 : Int32) (D1 : zD) => zjp (zlp (fun (_ : Int32) (_ : Int32) (_ : zD) => none) (fun (j25 : Int32 → Int32 → zD → Option (Int32 × zD)) (x3 : Int32) (x4 : Int32) (D2 : zD) => zald w D2 0 r0 (0 : Int32) (fun v3 => (if v3 ≤ x4 then some (x3, D2) else zci (f_MD_ofSiren w D2 r0 x4 (5 : Int32)) (fun v4 D5 => zlet (x3 + v4) (fun v6 => zlet (x4 + (1 : Int32)) (fun v7 => j25 v6 v7 D5)))))) zfuel) (fun j25 => zast w D1 0 s0 s1 s2 (fun D8 => j25 (0 : Int32) (0 : Int32) D8))) (fun j19 => (if x2 = 0 then j19 r0 (((11 : Int32) + ((7 : Int32) * x1)) + (5 : Int32)) (0 : Int32) D else j19 r0 (((11 : Int32) + ((7 : Int32) * x1)) + (5 : Int32)) (1 : Int32) D))
set_option maxHeartbeats 4000000 in
set_option maxRecDepth 100000 in
theorem c_MD_turnOn (z : zT) (D : zD) (r0 : Nat) (x1 : Int32) (x2 : Int32) : zM Y_MD_turnOn 2 0 0 (zqI z) (f_MD_turnOn z.2 D r0 x1 x2) [.ref r0, .int x1, .int x2] z D := by
  refine zM_of (plainFor_of_name (by decide +kernel)) rfl (Nat.le_of_ble_eq_true rfl) (fun _ _ _ _ h => nomatch h.1) (fun K => ?_)
  unfold f_MD_turnOn
  refine z_jp (fun j19 : Nat → Int32 → Int32 → zD → Option (Int32 × zD) => ∀ (s0 : Nat) (s1 : Int32) (s2 : Int32) (D1 : zD), zGO K Y_MD_turnOn 2 0 0 (zqI z) (j19 s0 s1 s2 D1) 0 0 z D1 19 [(0, .ref r0)] [.int s2, .int s1, .ref s0]) (fun s0 s1 s2 D1 => ?_) (fun j19 h19 => ?_)
  · refine z_jp (fun j25 : Int32 → Int32 → zD → Option (Int32 × zD) => ∀ (x3 : Int32) (x4 : Int32) (D2 : zD), zGO K Y_MD_turnOn 2 0 0 (zqI z) (j25 x3 x4 D2) 0 0 z D2 25 [(0, .ref r0), (3, .int x3), (4, .int x4)] []) (z_lp (fun j25 : Int32 → Int32 → zD → Option (Int32 × zD) => ∀ (x3 : Int32) (x4 : Int32) (D2 : zD), zGO K Y_MD_turnOn 2 0 0 (zqI z) (j25 x3 x4 D2) 0 0 z D2 25 [(0, .ref r0), (3, .int x3), (4, .int x4)] []) (fun _ _ _ => z_none) (fun j25 h25 x3 x4 D2 => ?_) zfuel) (fun j25 h25 => ?_)
    · refine z_iload (pc := 25) d_MD_turnOn_25 2 rfl ?_
      refine z_aload_n (pc := 27) d_MD_turnOn_27 rfl 0 rfl ?_
      refine z_iconst (pc := 28) d_MD_turnOn_28 ki_0 ?_
      refine z_iaload (pc := 29) d_MD_turnOn_29 (fun v3 => ?_)
      refine z_icmp_ge (pc := 30) (tgt := 49) d_MD_turnOn_30 (by decide) ?_ ?_
      · refine z_iload_n (pc := 49) d_MD_turnOn_49 rfl 1 rfl ?_
        exact z_iret (pc := 50) d_MD_turnOn_50 rfl
      · refine z_iload_n (pc := 33) d_MD_turnOn_33 rfl 1 rfl ?_
        refine z_aload_n (pc := 34) d_MD_turnOn_34 rfl 0 rfl ?_
        refine z_iload (pc := 35) d_MD_turnOn_35 2 rfl ?_
        refine z_iconst (pc := 37) d_MD_turnOn_37 ki_5 ?_
        refine z_callSi (pc := 38) [.ref r0, .int x4, .int (5 : Int32)] lkS_MD_45 (c_MD_ofSiren z D2 r0 x4 (5 : Int32)) (by decide) rfl rfl (Nat.le_of_ble_eq_true rfl) d_MD_turnOn_38 (fun v4 D5 => ?_)
        refine z_iadd (pc := 41) d_MD_turnOn_41 ?_
        refine z_leti (fun v6 => ?_)
        refine z_istore_n (pc := 42) d_MD_turnOn_42 rfl (by decide) (lv' := [(3, .int v6), (0, .ref r0), (4, .int x4)]) rfl ?_
        refine z_iincL (pc := 43) d_MD_turnOn_43 ki_1 2 rfl (by decide) (fun v7 => z_lvc (lv2 := [(4, .int v7), (3, .int v6), (0, .ref r0)]) rfl ?_)
        refine z_goto (pc := 46) (tgt := 25) d_MD_turnOn_46 (by decide) ?_
        exact z_sub [2, 1, 0] rfl (h25 v6 v7 D5)
    · refine z_iastore (pc := 19) d_MD_turnOn_19 (fun D8 => ?_)
      refine z_iconst (pc := 20) d_MD_turnOn_20 ki_0 ?_
      refine z_istore_n (pc := 21) d_MD_turnOn_21 rfl (by decide) (lv' := [(3, .int (0 : Int32)), (0, .ref r0)]) rfl ?_
      refine z_iconst (pc := 22) d_MD_turnOn_22 ki_0 ?_
      refine z_istore (pc := 23) d_MD_turnOn_23 (by decide) (lv' := [(4, .int (0 : Int32)), (3, .int (0 : Int32)), (0, .ref r0)]) rfl ?_
      exact z_sub [2, 1, 0] rfl (h25 (0 : Int32) (0 : Int32) D8)
  · refine z_aload_n (pc := 0) d_MD_turnOn_0 rfl 0 rfl ?_
    refine z_bipush (pc := 1) d_MD_turnOn_1 kb_11 ?_
    refine z_bipush (pc := 3) d_MD_turnOn_3 kb_7 ?_
    refine z_iload_n (pc := 5) d_MD_turnOn_5 rfl 1 rfl ?_
    refine z_imul (pc := 6) d_MD_turnOn_6 ?_
    refine z_iadd (pc := 7) d_MD_turnOn_7 ?_
    refine z_iconst (pc := 8) d_MD_turnOn_8 ki_5 ?_
    refine z_iadd (pc := 9) d_MD_turnOn_9 ?_
    refine z_iload_n (pc := 10) d_MD_turnOn_10 rfl 2 rfl ?_
    refine z_if_eq (pc := 11) (tgt := 18) d_MD_turnOn_11 (by decide) ?_ ?_
    · refine z_iconst (pc := 18) d_MD_turnOn_18 ki_0 ?_
      exact z_sub [0] rfl (h19 r0 (((11 : Int32) + ((7 : Int32) * x1)) + (5 : Int32)) (0 : Int32) D)
    · refine z_iconst (pc := 14) d_MD_turnOn_14 ki_1 ?_
      refine z_goto (pc := 15) (tgt := 19) d_MD_turnOn_15 (by decide) ?_
      exact z_sub [0] rfl (h19 r0 (((11 : Int32) + ((7 : Int32) * x1)) + (5 : Int32)) (1 : Int32) D)
theorem d_MD_walkOn_0 : decode Y_MD_walkOn.2.1 0 = .ok (.aload_n 0, 1) := by decide +kernel
theorem d_MD_walkOn_1 : decode Y_MD_walkOn.2.1 1 = .ok (.bipush (39), 2) := by decide +kernel
theorem d_MD_walkOn_3 : decode Y_MD_walkOn.2.1 3 = .ok (.iconst (5), 1) := by decide +kernel
theorem d_MD_walkOn_4 : decode Y_MD_walkOn.2.1 4 = .ok (.iload_n 1, 1) := by decide +kernel
theorem d_MD_walkOn_5 : decode Y_MD_walkOn.2.1 5 = .ok (.imul, 1) := by decide +kernel
theorem d_MD_walkOn_6 : decode Y_MD_walkOn.2.1 6 = .ok (.iadd, 1) := by decide +kernel
theorem d_MD_walkOn_7 : decode Y_MD_walkOn.2.1 7 = .ok (.iconst (2), 1) := by decide +kernel
theorem d_MD_walkOn_8 : decode Y_MD_walkOn.2.1 8 = .ok (.iadd, 1) := by decide +kernel
theorem d_MD_walkOn_9 : decode Y_MD_walkOn.2.1 9 = .ok (.iload_n 2, 1) := by decide +kernel
theorem d_MD_walkOn_10 : decode Y_MD_walkOn.2.1 10 = .ok (.iastore, 1) := by decide +kernel
theorem d_MD_walkOn_11 : decode Y_MD_walkOn.2.1 11 = .ok (.aload_n 0, 1) := by decide +kernel
theorem d_MD_walkOn_12 : decode Y_MD_walkOn.2.1 12 = .ok (.bipush (39), 2) := by decide +kernel
theorem d_MD_walkOn_14 : decode Y_MD_walkOn.2.1 14 = .ok (.iconst (5), 1) := by decide +kernel
theorem d_MD_walkOn_15 : decode Y_MD_walkOn.2.1 15 = .ok (.iload_n 1, 1) := by decide +kernel
theorem d_MD_walkOn_16 : decode Y_MD_walkOn.2.1 16 = .ok (.imul, 1) := by decide +kernel
theorem d_MD_walkOn_17 : decode Y_MD_walkOn.2.1 17 = .ok (.iadd, 1) := by decide +kernel
theorem d_MD_walkOn_18 : decode Y_MD_walkOn.2.1 18 = .ok (.iconst (3), 1) := by decide +kernel
theorem d_MD_walkOn_19 : decode Y_MD_walkOn.2.1 19 = .ok (.iadd, 1) := by decide +kernel
theorem d_MD_walkOn_20 : decode Y_MD_walkOn.2.1 20 = .ok (.iload_n 3, 1) := by decide +kernel
theorem d_MD_walkOn_21 : decode Y_MD_walkOn.2.1 21 = .ok (.iastore, 1) := by decide +kernel
theorem d_MD_walkOn_22 : decode Y_MD_walkOn.2.1 22 = .ok (.aload_n 0, 1) := by decide +kernel
theorem d_MD_walkOn_23 : decode Y_MD_walkOn.2.1 23 = .ok (.iload_n 1, 1) := by decide +kernel
theorem d_MD_walkOn_24 : decode Y_MD_walkOn.2.1 24 = .ok (.iconst (0), 1) := by decide +kernel
theorem d_MD_walkOn_25 : decode Y_MD_walkOn.2.1 25 = .ok (.invokestatic 70, 3) := by decide +kernel
theorem d_MD_walkOn_28 : decode Y_MD_walkOn.2.1 28 = .ok (.ireturn, 1) := by decide +kernel
def f_MD_walkOn (w : zW) (D : zD) (r0 : Nat) (x1 : Int32) (x2 : Int32) (x3 : Int32) : Option (Int32 × zD) := zast w D 0 r0 (((39 : Int32) + ((5 : Int32) * x1)) + (2 : Int32)) x2 (fun D1 => zast w D1 0 r0 (((39 : Int32) + ((5 : Int32) * x1)) + (3 : Int32)) x3 (fun D2 => zci (f_MD_ofHearer w D2 r0 x1 (0 : Int32)) (fun v3 D4 => some (v3, D4))))
set_option maxHeartbeats 4000000 in
set_option maxRecDepth 100000 in
theorem c_MD_walkOn (z : zT) (D : zD) (r0 : Nat) (x1 : Int32) (x2 : Int32) (x3 : Int32) : zM Y_MD_walkOn 2 0 0 (zqI z) (f_MD_walkOn z.2 D r0 x1 x2 x3) [.ref r0, .int x1, .int x2, .int x3] z D := by
  refine zM_of (plainFor_of_name (by decide +kernel)) rfl (Nat.le_of_ble_eq_true rfl) (fun _ _ _ _ h => nomatch h.1) (fun K => ?_)
  unfold f_MD_walkOn
  refine z_aload_n (pc := 0) d_MD_walkOn_0 rfl 0 rfl ?_
  refine z_bipush (pc := 1) d_MD_walkOn_1 kb_39 ?_
  refine z_iconst (pc := 3) d_MD_walkOn_3 ki_5 ?_
  refine z_iload_n (pc := 4) d_MD_walkOn_4 rfl 1 rfl ?_
  refine z_imul (pc := 5) d_MD_walkOn_5 ?_
  refine z_iadd (pc := 6) d_MD_walkOn_6 ?_
  refine z_iconst (pc := 7) d_MD_walkOn_7 ki_2 ?_
  refine z_iadd (pc := 8) d_MD_walkOn_8 ?_
  refine z_iload_n (pc := 9) d_MD_walkOn_9 rfl 2 rfl ?_
  refine z_iastore (pc := 10) d_MD_walkOn_10 (fun D1 => ?_)
  refine z_aload_n (pc := 11) d_MD_walkOn_11 rfl 0 rfl ?_
  refine z_bipush (pc := 12) d_MD_walkOn_12 kb_39 ?_
  refine z_iconst (pc := 14) d_MD_walkOn_14 ki_5 ?_
  refine z_iload_n (pc := 15) d_MD_walkOn_15 rfl 1 rfl ?_
  refine z_imul (pc := 16) d_MD_walkOn_16 ?_
  refine z_iadd (pc := 17) d_MD_walkOn_17 ?_
  refine z_iconst (pc := 18) d_MD_walkOn_18 ki_3 ?_
  refine z_iadd (pc := 19) d_MD_walkOn_19 ?_
  refine z_iload_n (pc := 20) d_MD_walkOn_20 rfl 3 rfl ?_
  refine z_iastore (pc := 21) d_MD_walkOn_21 (fun D2 => ?_)
  refine z_aload_n (pc := 22) d_MD_walkOn_22 rfl 0 rfl ?_
  refine z_iload_n (pc := 23) d_MD_walkOn_23 rfl 1 rfl ?_
  refine z_iconst (pc := 24) d_MD_walkOn_24 ki_0 ?_
  refine z_callSi (pc := 25) [.ref r0, .int x1, .int (0 : Int32)] lkS_MD_70 (c_MD_ofHearer z D2 r0 x1 (0 : Int32)) (by decide) rfl rfl (Nat.le_of_ble_eq_true rfl) d_MD_walkOn_25 (fun v3 D4 => ?_)
  exact z_iret (pc := 28) d_MD_walkOn_28 rfl
theorem d_MD_append_0 : decode Y_MD_append.2.1 0 = .ok (.aload_n 0, 1) := by decide +kernel
theorem d_MD_append_1 : decode Y_MD_append.2.1 1 = .ok (.iload_n 1, 1) := by decide +kernel
theorem d_MD_append_2 : decode Y_MD_append.2.1 2 = .ok (.i2l, 1) := by decide +kernel
theorem d_MD_append_3 : decode Y_MD_append.2.1 3 = .ok (.lconst 0, 1) := by decide +kernel
theorem d_MD_append_4 : decode Y_MD_append.2.1 4 = .ok (.ldc2_w 122, 3) := by decide +kernel
theorem d_MD_append_7 : decode Y_MD_append.2.1 7 = .ok (.invokestatic 37, 3) := by decide +kernel
theorem d_MD_append_10 : decode Y_MD_append.2.1 10 = .ok (.ifCond .ne (7), 3) := by decide +kernel
theorem d_MD_append_13 : decode Y_MD_append.2.1 13 = .ok (.iconst (1), 1) := by decide +kernel
theorem d_MD_append_14 : decode Y_MD_append.2.1 14 = .ok (.goto (17), 3) := by decide +kernel
theorem d_MD_append_17 : decode Y_MD_append.2.1 17 = .ok (.aload_n 0, 1) := by decide +kernel
theorem d_MD_append_18 : decode Y_MD_append.2.1 18 = .ok (.getfield 124, 3) := by decide +kernel
theorem d_MD_append_21 : decode Y_MD_append.2.1 21 = .ok (.bipush (120), 2) := by decide +kernel
theorem d_MD_append_23 : decode Y_MD_append.2.1 23 = .ok (.if_icmp .ne (7), 3) := by decide +kernel
theorem d_MD_append_26 : decode Y_MD_append.2.1 26 = .ok (.iconst (2), 1) := by decide +kernel
theorem d_MD_append_27 : decode Y_MD_append.2.1 27 = .ok (.goto (4), 3) := by decide +kernel
theorem d_MD_append_30 : decode Y_MD_append.2.1 30 = .ok (.iconst (0), 1) := by decide +kernel
theorem d_MD_append_31 : decode Y_MD_append.2.1 31 = .ok (.invokevirtual 127, 3) := by decide +kernel
theorem d_MD_append_34 : decode Y_MD_append.2.1 34 = .ok (.ifCond .eq (5), 3) := by decide +kernel
theorem d_MD_append_37 : decode Y_MD_append.2.1 37 = .ok (.iconst (0), 1) := by decide +kernel
theorem d_MD_append_38 : decode Y_MD_append.2.1 38 = .ok (.ireturn, 1) := by decide +kernel
theorem d_MD_append_39 : decode Y_MD_append.2.1 39 = .ok (.aload_n 0, 1) := by decide +kernel
theorem d_MD_append_40 : decode Y_MD_append.2.1 40 = .ok (.getfield 7, 3) := by decide +kernel
theorem d_MD_append_43 : decode Y_MD_append.2.1 43 = .ok (.aload_n 0, 1) := by decide +kernel
theorem d_MD_append_44 : decode Y_MD_append.2.1 44 = .ok (.getfield 124, 3) := by decide +kernel
theorem d_MD_append_47 : decode Y_MD_append.2.1 47 = .ok (.iload_n 1, 1) := by decide +kernel
theorem d_MD_append_48 : decode Y_MD_append.2.1 48 = .ok (.iastore, 1) := by decide +kernel
theorem d_MD_append_49 : decode Y_MD_append.2.1 49 = .ok (.aload_n 0, 1) := by decide +kernel
theorem d_MD_append_50 : decode Y_MD_append.2.1 50 = .ok (.dup, 1) := by decide +kernel
theorem d_MD_append_51 : decode Y_MD_append.2.1 51 = .ok (.getfield 124, 3) := by decide +kernel
theorem d_MD_append_54 : decode Y_MD_append.2.1 54 = .ok (.iconst (1), 1) := by decide +kernel
theorem d_MD_append_55 : decode Y_MD_append.2.1 55 = .ok (.iadd, 1) := by decide +kernel
theorem d_MD_append_56 : decode Y_MD_append.2.1 56 = .ok (.putfield 124, 3) := by decide +kernel
theorem d_MD_append_59 : decode Y_MD_append.2.1 59 = .ok (.aload_n 0, 1) := by decide +kernel
theorem d_MD_append_60 : decode Y_MD_append.2.1 60 = .ok (.getfield 124, 3) := by decide +kernel
theorem d_MD_append_63 : decode Y_MD_append.2.1 63 = .ok (.ireturn, 1) := by decide +kernel
def f_MD_append (w : zW) (D : zD) (a : Nat) (x1 : Int32) : Option (Int32 × zD) := zjp (fun (s0 : Nat) (s1 : Int32) (D1 : zD) => zobj w 8 s0 (zci (f_MD_refused w D1 s0 s1) (fun v2 D3 => (if v2 = 0 then zref w 8 1 a (fun p4 => zfld w D3 8 2 a (fun v5 => zast w D3 0 p4 v5 x1 (fun D6 => zfld w D6 8 2 a (fun v7 => zput w D6 8 2 a (v7 + (1 : Int32)) (fun D8 => zfld w D8 8 2 a (fun v9 => some (v9, D8))))))) else some ((0 : Int32), D3))))) (fun j31 => zci (f_MD_in w D x1.toInt64 (0 : Int64) (255 : Int64)) (fun v10 D11 => (if v10 = 0 then j31 a (1 : Int32) D11 else zfld w D11 8 2 a (fun v12 => (if v12 = (120 : Int32) then j31 a (2 : Int32) D11 else j31 a (0 : Int32) D11)))))
set_option maxHeartbeats 4000000 in
set_option maxRecDepth 100000 in
theorem c_MD_append (z : zT) (D : zD) (a : Nat) (x1 : Int32) : zM Y_MD_append 2 0 0 (zqI z) (f_MD_append z.2 D a x1) [.ref a, .int x1] z D := by
  refine zM_of (plainFor_of_name (by decide +kernel)) rfl (Nat.le_of_ble_eq_true rfl) (fun _ _ _ _ h => nomatch h.1) (fun K => ?_)
  unfold f_MD_append
  refine z_jp (fun j31 : Nat → Int32 → zD → Option (Int32 × zD) => ∀ (s0 : Nat) (s1 : Int32) (D1 : zD), zGO K Y_MD_append 2 0 0 (zqI z) (j31 s0 s1 D1) 0 0 z D1 31 [(0, .ref a), (1, .int x1)] [.int s1, .ref s0]) (fun s0 s1 D1 => ?_) (fun j31 h31 => ?_)
  · refine z_callVi (pc := 31) [.int s1] lkV_MD_127 rfl (c_MD_refused z D1 s0 s1) (by decide) rfl rfl (Nat.le_of_ble_eq_true rfl) d_MD_append_31 (fun v2 D3 => ?_)
    refine z_if_eq (pc := 34) (tgt := 39) d_MD_append_34 (by decide) ?_ ?_
    · refine z_aload_n (pc := 39) d_MD_append_39 rfl 0 rfl ?_
      refine z_getR (pc := 40) fl_MD_7 d_MD_append_40 (fun p4 => ?_)
      refine z_aload_n (pc := 43) d_MD_append_43 rfl 0 rfl ?_
      refine z_getI (pc := 44) fl_MD_124 d_MD_append_44 (fun v5 => ?_)
      refine z_iload_n (pc := 47) d_MD_append_47 rfl 1 rfl ?_
      refine z_iastore (pc := 48) d_MD_append_48 (fun D6 => ?_)
      refine z_aload_n (pc := 49) d_MD_append_49 rfl 0 rfl ?_
      refine z_dup (pc := 50) d_MD_append_50 rfl ?_
      refine z_getI (pc := 51) fl_MD_124 d_MD_append_51 (fun v7 => ?_)
      refine z_iconst (pc := 54) d_MD_append_54 ki_1 ?_
      refine z_iadd (pc := 55) d_MD_append_55 ?_
      refine z_putI (pc := 56) fl_MD_124 d_MD_append_56 (fun D8 => ?_)
      refine z_aload_n (pc := 59) d_MD_append_59 rfl 0 rfl ?_
      refine z_getI (pc := 60) fl_MD_124 d_MD_append_60 (fun v9 => ?_)
      exact z_iret (pc := 63) d_MD_append_63 rfl
    · refine z_iconst (pc := 37) d_MD_append_37 ki_0 ?_
      exact z_iret (pc := 38) d_MD_append_38 rfl
  · refine z_aload_n (pc := 0) d_MD_append_0 rfl 0 rfl ?_
    refine z_iload_n (pc := 1) d_MD_append_1 rfl 1 rfl ?_
    refine z_i2l (pc := 2) d_MD_append_2 ?_
    refine z_lconst (pc := 3) d_MD_append_3 (v := 0) rfl ?_
    refine z_ldc2 (pc := 4) w_k_MD_122 d_MD_append_4 ?_
    refine z_callSi (pc := 7) [.long x1.toInt64, .long (0 : Int64), .long (255 : Int64)] lkS_MD_37 (c_MD_in z D x1.toInt64 (0 : Int64) (255 : Int64)) (by decide) rfl rfl (Nat.le_of_ble_eq_true rfl) d_MD_append_7 (fun v10 D11 => ?_)
    refine z_if_ne (pc := 10) (tgt := 17) d_MD_append_10 (by decide) ?_ ?_
    · refine z_iconst (pc := 13) d_MD_append_13 ki_1 ?_
      refine z_goto (pc := 14) (tgt := 31) d_MD_append_14 (by decide) ?_
      exact z_sub [0, 1] rfl (h31 a (1 : Int32) D11)
    · refine z_aload_n (pc := 17) d_MD_append_17 rfl 0 rfl ?_
      refine z_getI (pc := 18) fl_MD_124 d_MD_append_18 (fun v12 => ?_)
      refine z_bipush (pc := 21) d_MD_append_21 kb_120 ?_
      refine z_icmp_ne (pc := 23) (tgt := 30) d_MD_append_23 (by decide) ?_ ?_
      · refine z_iconst (pc := 26) d_MD_append_26 ki_2 ?_
        refine z_goto (pc := 27) (tgt := 31) d_MD_append_27 (by decide) ?_
        exact z_sub [0, 1] rfl (h31 a (2 : Int32) D11)
      · refine z_iconst (pc := 30) d_MD_append_30 ki_0 ?_
        exact z_sub [0, 1] rfl (h31 a (0 : Int32) D11)
theorem d_MD_figures_0 : decode Y_MD_figures.2.1 0 = .ok (.iconst (0), 1) := by decide +kernel
theorem d_MD_figures_1 : decode Y_MD_figures.2.1 1 = .ok (.istore 5, 2) := by decide +kernel
theorem d_MD_figures_3 : decode Y_MD_figures.2.1 3 = .ok (.iload_n 2, 1) := by decide +kernel
theorem d_MD_figures_4 : decode Y_MD_figures.2.1 4 = .ok (.iconst (2), 1) := by decide +kernel
theorem d_MD_figures_5 : decode Y_MD_figures.2.1 5 = .ok (.if_icmp .ne (8), 3) := by decide +kernel
theorem d_MD_figures_8 : decode Y_MD_figures.2.1 8 = .ok (.bipush (10), 2) := by decide +kernel
theorem d_MD_figures_10 : decode Y_MD_figures.2.1 10 = .ok (.goto (4), 3) := by decide +kernel
theorem d_MD_figures_13 : decode Y_MD_figures.2.1 13 = .ok (.iconst (1), 1) := by decide +kernel
theorem d_MD_figures_14 : decode Y_MD_figures.2.1 14 = .ok (.istore 6, 2) := by decide +kernel
theorem d_MD_figures_16 : decode Y_MD_figures.2.1 16 = .ok (.iload 6, 2) := by decide +kernel
theorem d_MD_figures_18 : decode Y_MD_figures.2.1 18 = .ok (.ifCond .le (104), 3) := by decide +kernel
theorem d_MD_figures_21 : decode Y_MD_figures.2.1 21 = .ok (.iload_n 1, 1) := by decide +kernel
theorem d_MD_figures_22 : decode Y_MD_figures.2.1 22 = .ok (.iconst (-1), 1) := by decide +kernel
theorem d_MD_figures_23 : decode Y_MD_figures.2.1 23 = .ok (.if_icmp .eq (99), 3) := by decide +kernel
theorem d_MD_figures_26 : decode Y_MD_figures.2.1 26 = .ok (.aload_n 0, 1) := by decide +kernel
theorem d_MD_figures_27 : decode Y_MD_figures.2.1 27 = .ok (.getfield 131, 3) := by decide +kernel
theorem d_MD_figures_30 : decode Y_MD_figures.2.1 30 = .ok (.aload_n 0, 1) := by decide +kernel
theorem d_MD_figures_31 : decode Y_MD_figures.2.1 31 = .ok (.getfield 124, 3) := by decide +kernel
theorem d_MD_figures_34 : decode Y_MD_figures.2.1 34 = .ok (.if_icmp .ge (18), 3) := by decide +kernel
theorem d_MD_figures_37 : decode Y_MD_figures.2.1 37 = .ok (.aload_n 0, 1) := by decide +kernel
theorem d_MD_figures_38 : decode Y_MD_figures.2.1 38 = .ok (.getfield 7, 3) := by decide +kernel
theorem d_MD_figures_41 : decode Y_MD_figures.2.1 41 = .ok (.aload_n 0, 1) := by decide +kernel
theorem d_MD_figures_42 : decode Y_MD_figures.2.1 42 = .ok (.getfield 131, 3) := by decide +kernel
theorem d_MD_figures_45 : decode Y_MD_figures.2.1 45 = .ok (.iaload, 1) := by decide +kernel
theorem d_MD_figures_46 : decode Y_MD_figures.2.1 46 = .ok (.bipush (48), 2) := by decide +kernel
theorem d_MD_figures_48 : decode Y_MD_figures.2.1 48 = .ok (.isub, 1) := by decide +kernel
theorem d_MD_figures_49 : decode Y_MD_figures.2.1 49 = .ok (.goto (4), 3) := by decide +kernel
theorem d_MD_figures_52 : decode Y_MD_figures.2.1 52 = .ok (.iconst (-1), 1) := by decide +kernel
theorem d_MD_figures_53 : decode Y_MD_figures.2.1 53 = .ok (.istore 7, 2) := by decide +kernel
theorem d_MD_figures_55 : decode Y_MD_figures.2.1 55 = .ok (.iload 5, 2) := by decide +kernel
theorem d_MD_figures_57 : decode Y_MD_figures.2.1 57 = .ok (.iload 7, 2) := by decide +kernel
theorem d_MD_figures_59 : decode Y_MD_figures.2.1 59 = .ok (.iload 6, 2) := by decide +kernel
theorem d_MD_figures_61 : decode Y_MD_figures.2.1 61 = .ok (.imul, 1) := by decide +kernel
theorem d_MD_figures_62 : decode Y_MD_figures.2.1 62 = .ok (.iadd, 1) := by decide +kernel
theorem d_MD_figures_63 : decode Y_MD_figures.2.1 63 = .ok (.istore 8, 2) := by decide +kernel
theorem d_MD_figures_65 : decode Y_MD_figures.2.1 65 = .ok (.iload 7, 2) := by decide +kernel
theorem d_MD_figures_67 : decode Y_MD_figures.2.1 67 = .ok (.i2l, 1) := by decide +kernel
theorem d_MD_figures_68 : decode Y_MD_figures.2.1 68 = .ok (.lconst 0, 1) := by decide +kernel
theorem d_MD_figures_69 : decode Y_MD_figures.2.1 69 = .ok (.ldc2_w 41, 3) := by decide +kernel
theorem d_MD_figures_72 : decode Y_MD_figures.2.1 72 = .ok (.invokestatic 37, 3) := by decide +kernel
theorem d_MD_figures_75 : decode Y_MD_figures.2.1 75 = .ok (.ifCond .eq (21), 3) := by decide +kernel
theorem d_MD_figures_78 : decode Y_MD_figures.2.1 78 = .ok (.iload 8, 2) := by decide +kernel
theorem d_MD_figures_80 : decode Y_MD_figures.2.1 80 = .ok (.iload 4, 2) := by decide +kernel
theorem d_MD_figures_82 : decode Y_MD_figures.2.1 82 = .ok (.if_icmp .gt (14), 3) := by decide +kernel
theorem d_MD_figures_85 : decode Y_MD_figures.2.1 85 = .ok (.iload 8, 2) := by decide +kernel
theorem d_MD_figures_87 : decode Y_MD_figures.2.1 87 = .ok (.iload 6, 2) := by decide +kernel
theorem d_MD_figures_89 : decode Y_MD_figures.2.1 89 = .ok (.iadd, 1) := by decide +kernel
theorem d_MD_figures_90 : decode Y_MD_figures.2.1 90 = .ok (.iconst (1), 1) := by decide +kernel
theorem d_MD_figures_91 : decode Y_MD_figures.2.1 91 = .ok (.isub, 1) := by decide +kernel
theorem d_MD_figures_92 : decode Y_MD_figures.2.1 92 = .ok (.iload_n 3, 1) := by decide +kernel
theorem d_MD_figures_93 : decode Y_MD_figures.2.1 93 = .ok (.if_icmp .ge (5), 3) := by decide +kernel
theorem d_MD_figures_96 : decode Y_MD_figures.2.1 96 = .ok (.iconst (-1), 1) := by decide +kernel
theorem d_MD_figures_97 : decode Y_MD_figures.2.1 97 = .ok (.ireturn, 1) := by decide +kernel
theorem d_MD_figures_98 : decode Y_MD_figures.2.1 98 = .ok (.iload 8, 2) := by decide +kernel
theorem d_MD_figures_100 : decode Y_MD_figures.2.1 100 = .ok (.istore 5, 2) := by decide +kernel
theorem d_MD_figures_102 : decode Y_MD_figures.2.1 102 = .ok (.aload_n 0, 1) := by decide +kernel
theorem d_MD_figures_103 : decode Y_MD_figures.2.1 103 = .ok (.dup, 1) := by decide +kernel
theorem d_MD_figures_104 : decode Y_MD_figures.2.1 104 = .ok (.getfield 131, 3) := by decide +kernel
theorem d_MD_figures_107 : decode Y_MD_figures.2.1 107 = .ok (.iconst (1), 1) := by decide +kernel
theorem d_MD_figures_108 : decode Y_MD_figures.2.1 108 = .ok (.iadd, 1) := by decide +kernel
theorem d_MD_figures_109 : decode Y_MD_figures.2.1 109 = .ok (.putfield 131, 3) := by decide +kernel
theorem d_MD_figures_112 : decode Y_MD_figures.2.1 112 = .ok (.iload 6, 2) := by decide +kernel
theorem d_MD_figures_114 : decode Y_MD_figures.2.1 114 = .ok (.bipush (10), 2) := by decide +kernel
theorem d_MD_figures_116 : decode Y_MD_figures.2.1 116 = .ok (.idiv, 1) := by decide +kernel
theorem d_MD_figures_117 : decode Y_MD_figures.2.1 117 = .ok (.istore 6, 2) := by decide +kernel
theorem d_MD_figures_119 : decode Y_MD_figures.2.1 119 = .ok (.goto (-103), 3) := by decide +kernel
theorem d_MD_figures_122 : decode Y_MD_figures.2.1 122 = .ok (.iload_n 1, 1) := by decide +kernel
theorem d_MD_figures_123 : decode Y_MD_figures.2.1 123 = .ok (.iconst (-1), 1) := by decide +kernel
theorem d_MD_figures_124 : decode Y_MD_figures.2.1 124 = .ok (.if_icmp .ne (7), 3) := by decide +kernel
theorem d_MD_figures_127 : decode Y_MD_figures.2.1 127 = .ok (.iconst (-1), 1) := by decide +kernel
theorem d_MD_figures_128 : decode Y_MD_figures.2.1 128 = .ok (.goto (5), 3) := by decide +kernel
theorem d_MD_figures_131 : decode Y_MD_figures.2.1 131 = .ok (.iload 5, 2) := by decide +kernel
theorem d_MD_figures_133 : decode Y_MD_figures.2.1 133 = .ok (.ireturn, 1) := by decide +kernel
def f_MD_figures (w : zW) (D : zD) (a : Nat) (x1 : Int32) (x2 : Int32) (x3 : Int32) (x4 : Int32) : Option (Int32 × zD) := zjp (fun (x5 : Int32) (s0 : Int32) (D1 : zD) => zjp (zlp (fun (_ : Int32) (_ : Int32) (_ : zD) => none) (fun (j16 : Int32 → Int32 → zD → Option (Int32 × zD)) (x5 : Int32) (x6 : Int32) (D2 : zD) => zjp (fun (x5 : Int32) (D3 : zD) => zjp (fun (s0 : Int32) (D4 : zD) => some (s0, D4)) (fun j133 => (if x1 = (-1 : Int32) then j133 (-1 : Int32) D3 else j133 x5 D3))) (fun j122 => (if x6 ≤ 0 then j122 x5 D2 else (if x1 = (-1 : Int32) then j122 x5 D2 else zjp (fun (x5 : Int32) (x6 : Int32) (s0 : Int32) (D5 : zD) => zjp (fun (D6 : zD) => some ((-1 : Int32), D6)) (fun j96 => zlet (x5 + (s0 * x6)) (fun v7 => zci (f_MD_in w D5 s0.toInt64 (0 : Int64) (9 : Int64)) (fun v8 D9 => (if v8 = 0 then j96 D9 else (if x4 < v7 then j96 D9 else (if x3 ≤ ((v7 + x6) - (1 : Int32)) then zfld w D9 8 9 a (fun v10 => zput w D9 8 9 a (v10 + (1 : Int32)) (fun D11 => zlet (x6 / (10 : Int32)) (fun v12 => j16 v7 v12 D11))) else j96 D9))))))) (fun j53 => zfld w D2 8 9 a (fun v13 => zfld w D2 8 2 a (fun v14 => (if v14 ≤ v13 then j53 x5 x6 (-1 : Int32) D2 else zref w 8 1 a (fun p15 => zfld w D2 8 9 a (fun v16 => zald w D2 0 p15 v16 (fun v17 => j53 x5 x6 (v17 - (48 : Int32)) D2))))))))))) zfuel) (fun j16 => j16 x5 s0 D1)) (fun j14 => (if x2 = (2 : Int32) then j14 (0 : Int32) (10 : Int32) D else j14 (0 : Int32) (1 : Int32) D))
set_option maxHeartbeats 4000000 in
set_option maxRecDepth 100000 in
theorem c_MD_figures (z : zT) (D : zD) (a : Nat) (x1 : Int32) (x2 : Int32) (x3 : Int32) (x4 : Int32) : zM Y_MD_figures 2 0 0 (zqI z) (f_MD_figures z.2 D a x1 x2 x3 x4) [.ref a, .int x1, .int x2, .int x3, .int x4] z D := by
  refine zM_of (plainFor_of_name (by decide +kernel)) rfl (Nat.le_of_ble_eq_true rfl) (fun _ _ _ _ h => nomatch h.1) (fun K => ?_)
  unfold f_MD_figures
  refine z_jp (fun j14 : Int32 → Int32 → zD → Option (Int32 × zD) => ∀ (x5 : Int32) (s0 : Int32) (D1 : zD), zGO K Y_MD_figures 2 0 0 (zqI z) (j14 x5 s0 D1) 0 0 z D1 14 [(0, .ref a), (1, .int x1), (3, .int x3), (4, .int x4), (5, .int x5)] [.int s0]) (fun x5 s0 D1 => ?_) (fun j14 h14 => ?_)
  · refine z_jp (fun j16 : Int32 → Int32 → zD → Option (Int32 × zD) => ∀ (x5 : Int32) (x6 : Int32) (D2 : zD), zGO K Y_MD_figures 2 0 0 (zqI z) (j16 x5 x6 D2) 0 0 z D2 16 [(0, .ref a), (1, .int x1), (3, .int x3), (4, .int x4), (5, .int x5), (6, .int x6)] []) (z_lp (fun j16 : Int32 → Int32 → zD → Option (Int32 × zD) => ∀ (x5 : Int32) (x6 : Int32) (D2 : zD), zGO K Y_MD_figures 2 0 0 (zqI z) (j16 x5 x6 D2) 0 0 z D2 16 [(0, .ref a), (1, .int x1), (3, .int x3), (4, .int x4), (5, .int x5), (6, .int x6)] []) (fun _ _ _ => z_none) (fun j16 h16 x5 x6 D2 => ?_) zfuel) (fun j16 h16 => ?_)
    · refine z_jp (fun j122 : Int32 → zD → Option (Int32 × zD) => ∀ (x5 : Int32) (D3 : zD), zGO K Y_MD_figures 2 0 0 (zqI z) (j122 x5 D3) 0 0 z D3 122 [(1, .int x1), (5, .int x5)] []) (fun x5 D3 => ?_) (fun j122 h122 => ?_)
      · refine z_jp (fun j133 : Int32 → zD → Option (Int32 × zD) => ∀ (s0 : Int32) (D4 : zD), zGO K Y_MD_figures 2 0 0 (zqI z) (j133 s0 D4) 0 0 z D4 133 [] [.int s0]) (fun s0 D4 => ?_) (fun j133 h133 => ?_)
        · exact z_iret (pc := 133) d_MD_figures_133 rfl
        · refine z_iload_n (pc := 122) d_MD_figures_122 rfl 0 rfl ?_
          refine z_iconst (pc := 123) d_MD_figures_123 ki_m1 ?_
          refine z_icmp_ne (pc := 124) (tgt := 131) d_MD_figures_124 (by decide) ?_ ?_
          · refine z_iconst (pc := 127) d_MD_figures_127 ki_m1 ?_
            refine z_goto (pc := 128) (tgt := 133) d_MD_figures_128 (by decide) ?_
            exact z_sub [] rfl (h133 (-1 : Int32) D3)
          · refine z_iload (pc := 131) d_MD_figures_131 1 rfl ?_
            exact z_sub [] rfl (h133 x5 D3)
      · refine z_iload (pc := 16) d_MD_figures_16 5 rfl ?_
        refine z_if_le (pc := 18) (tgt := 122) d_MD_figures_18 (by decide) ?_ ?_
        · exact z_sub [1, 4] rfl (h122 x5 D2)
        · refine z_iload_n (pc := 21) d_MD_figures_21 rfl 1 rfl ?_
          refine z_iconst (pc := 22) d_MD_figures_22 ki_m1 ?_
          refine z_icmp_eq (pc := 23) (tgt := 122) d_MD_figures_23 (by decide) ?_ ?_
          · exact z_sub [1, 4] rfl (h122 x5 D2)
          · refine z_jp (fun j53 : Int32 → Int32 → Int32 → zD → Option (Int32 × zD) => ∀ (x5 : Int32) (x6 : Int32) (s0 : Int32) (D5 : zD), zGO K Y_MD_figures 2 0 0 (zqI z) (j53 x5 x6 s0 D5) 0 0 z D5 53 [(0, .ref a), (1, .int x1), (3, .int x3), (4, .int x4), (5, .int x5), (6, .int x6)] [.int s0]) (fun x5 x6 s0 D5 => ?_) (fun j53 h53 => ?_)
            · refine z_jp (fun j96 : zD → Option (Int32 × zD) => ∀ (D6 : zD), zGO K Y_MD_figures 2 0 0 (zqI z) (j96  D6) 0 0 z D6 96 [] []) (fun  D6 => ?_) (fun j96 h96 => ?_)
              · refine z_iconst (pc := 96) d_MD_figures_96 ki_m1 ?_
                exact z_iret (pc := 97) d_MD_figures_97 rfl
              · refine z_istore (pc := 53) d_MD_figures_53 (by decide) (lv' := [(7, .int s0), (0, .ref a), (1, .int x1), (3, .int x3), (4, .int x4), (5, .int x5), (6, .int x6)]) rfl ?_
                refine z_iload (pc := 55) d_MD_figures_55 5 rfl ?_
                refine z_iload (pc := 57) d_MD_figures_57 0 rfl ?_
                refine z_iload (pc := 59) d_MD_figures_59 6 rfl ?_
                refine z_imul (pc := 61) d_MD_figures_61 ?_
                refine z_iadd (pc := 62) d_MD_figures_62 ?_
                refine z_leti (fun v7 => ?_)
                refine z_istore (pc := 63) d_MD_figures_63 (by decide) (lv' := [(8, .int v7), (7, .int s0), (0, .ref a), (1, .int x1), (3, .int x3), (4, .int x4), (5, .int x5), (6, .int x6)]) rfl ?_
                refine z_iload (pc := 65) d_MD_figures_65 1 rfl ?_
                refine z_i2l (pc := 67) d_MD_figures_67 ?_
                refine z_lconst (pc := 68) d_MD_figures_68 (v := 0) rfl ?_
                refine z_ldc2 (pc := 69) w_k_MD_41 d_MD_figures_69 ?_
                refine z_callSi (pc := 72) [.long s0.toInt64, .long (0 : Int64), .long (9 : Int64)] lkS_MD_37 (c_MD_in z D5 s0.toInt64 (0 : Int64) (9 : Int64)) (by decide) rfl rfl (Nat.le_of_ble_eq_true rfl) d_MD_figures_72 (fun v8 D9 => ?_)
                refine z_if_eq (pc := 75) (tgt := 96) d_MD_figures_75 (by decide) ?_ ?_
                · exact z_sub [] rfl (h96 D9)
                · refine z_iload (pc := 78) d_MD_figures_78 0 rfl ?_
                  refine z_iload (pc := 80) d_MD_figures_80 5 rfl ?_
                  refine z_icmp_gt (pc := 82) (tgt := 96) d_MD_figures_82 (by decide) ?_ ?_
                  · exact z_sub [] rfl (h96 D9)
                  · refine z_iload (pc := 85) d_MD_figures_85 0 rfl ?_
                    refine z_iload (pc := 87) d_MD_figures_87 7 rfl ?_
                    refine z_iadd (pc := 89) d_MD_figures_89 ?_
                    refine z_iconst (pc := 90) d_MD_figures_90 ki_1 ?_
                    refine z_isub (pc := 91) d_MD_figures_91 ?_
                    refine z_iload_n (pc := 92) d_MD_figures_92 rfl 4 rfl ?_
                    refine z_icmp_ge (pc := 93) (tgt := 98) d_MD_figures_93 (by decide) ?_ ?_
                    · refine z_iload (pc := 98) d_MD_figures_98 0 rfl ?_
                      refine z_istore (pc := 100) d_MD_figures_100 (by decide) (lv' := [(5, .int v7), (8, .int v7), (7, .int s0), (0, .ref a), (1, .int x1), (3, .int x3), (4, .int x4), (6, .int x6)]) rfl ?_
                      refine z_aload_n (pc := 102) d_MD_figures_102 rfl 3 rfl ?_
                      refine z_dup (pc := 103) d_MD_figures_103 rfl ?_
                      refine z_getI (pc := 104) fl_MD_131 d_MD_figures_104 (fun v10 => ?_)
                      refine z_iconst (pc := 107) d_MD_figures_107 ki_1 ?_
                      refine z_iadd (pc := 108) d_MD_figures_108 ?_
                      refine z_putI (pc := 109) fl_MD_131 d_MD_figures_109 (fun D11 => ?_)
                      refine z_iload (pc := 112) d_MD_figures_112 7 rfl ?_
                      refine z_bipush (pc := 114) d_MD_figures_114 kb_10 ?_
                      refine z_idivK (pc := 116) d_MD_figures_116 (by decide) ?_
                      refine z_leti (fun v12 => ?_)
                      refine z_istore (pc := 117) d_MD_figures_117 (by decide) (lv' := [(6, .int v12), (5, .int v7), (8, .int v7), (7, .int s0), (0, .ref a), (1, .int x1), (3, .int x3), (4, .int x4)]) rfl ?_
                      refine z_goto (pc := 119) (tgt := 16) d_MD_figures_119 (by decide) ?_
                      exact z_sub [4, 5, 6, 7, 1, 0] rfl (h16 v7 v12 D11)
                    · exact z_sub [] rfl (h96 D9)
            · refine z_aload_n (pc := 26) d_MD_figures_26 rfl 0 rfl ?_
              refine z_getI (pc := 27) fl_MD_131 d_MD_figures_27 (fun v13 => ?_)
              refine z_aload_n (pc := 30) d_MD_figures_30 rfl 0 rfl ?_
              refine z_getI (pc := 31) fl_MD_124 d_MD_figures_31 (fun v14 => ?_)
              refine z_icmp_ge (pc := 34) (tgt := 52) d_MD_figures_34 (by decide) ?_ ?_
              · refine z_iconst (pc := 52) d_MD_figures_52 ki_m1 ?_
                exact z_sub [0, 1, 2, 3, 4, 5] rfl (h53 x5 x6 (-1 : Int32) D2)
              · refine z_aload_n (pc := 37) d_MD_figures_37 rfl 0 rfl ?_
                refine z_getR (pc := 38) fl_MD_7 d_MD_figures_38 (fun p15 => ?_)
                refine z_aload_n (pc := 41) d_MD_figures_41 rfl 0 rfl ?_
                refine z_getI (pc := 42) fl_MD_131 d_MD_figures_42 (fun v16 => ?_)
                refine z_iaload (pc := 45) d_MD_figures_45 (fun v17 => ?_)
                refine z_bipush (pc := 46) d_MD_figures_46 kb_48 ?_
                refine z_isub (pc := 48) d_MD_figures_48 ?_
                refine z_goto (pc := 49) (tgt := 53) d_MD_figures_49 (by decide) ?_
                exact z_sub [0, 1, 2, 3, 4, 5] rfl (h53 x5 x6 (v17 - (48 : Int32)) D2)
    · refine z_istore (pc := 14) d_MD_figures_14 (by decide) (lv' := [(6, .int s0), (0, .ref a), (1, .int x1), (3, .int x3), (4, .int x4), (5, .int x5)]) rfl ?_
      exact z_sub [1, 2, 3, 4, 5, 0] rfl (h16 x5 s0 D1)
  · refine z_iconst (pc := 0) d_MD_figures_0 ki_0 ?_
    refine z_istore (pc := 1) d_MD_figures_1 (by decide) (lv' := [(5, .int (0 : Int32)), (0, .ref a), (1, .int x1), (2, .int x2), (3, .int x3), (4, .int x4)]) rfl ?_
    refine z_iload_n (pc := 3) d_MD_figures_3 rfl 3 rfl ?_
    refine z_iconst (pc := 4) d_MD_figures_4 ki_2 ?_
    refine z_icmp_ne (pc := 5) (tgt := 13) d_MD_figures_5 (by decide) ?_ ?_
    · refine z_bipush (pc := 8) d_MD_figures_8 kb_10 ?_
      refine z_goto (pc := 10) (tgt := 14) d_MD_figures_10 (by decide) ?_
      exact z_sub [1, 2, 4, 5, 0] rfl (h14 (0 : Int32) (10 : Int32) D)
    · refine z_iconst (pc := 13) d_MD_figures_13 ki_1 ?_
      exact z_sub [1, 2, 4, 5, 0] rfl (h14 (0 : Int32) (1 : Int32) D)
theorem d_MD_about_0 : decode Y_MD_about.2.1 0 = .ok (.aload_n 0, 1) := by decide +kernel
theorem d_MD_about_1 : decode Y_MD_about.2.1 1 = .ok (.iload_n 1, 1) := by decide +kernel
theorem d_MD_about_2 : decode Y_MD_about.2.1 2 = .ok (.i2l, 1) := by decide +kernel
theorem d_MD_about_3 : decode Y_MD_about.2.1 3 = .ok (.lconst 0, 1) := by decide +kernel
theorem d_MD_about_4 : decode Y_MD_about.2.1 4 = .ok (.ldc2_w 41, 3) := by decide +kernel
theorem d_MD_about_7 : decode Y_MD_about.2.1 7 = .ok (.invokestatic 37, 3) := by decide +kernel
theorem d_MD_about_10 : decode Y_MD_about.2.1 10 = .ok (.ifCond .eq (7), 3) := by decide +kernel
theorem d_MD_about_13 : decode Y_MD_about.2.1 13 = .ok (.iconst (0), 1) := by decide +kernel
theorem d_MD_about_14 : decode Y_MD_about.2.1 14 = .ok (.goto (4), 3) := by decide +kernel
theorem d_MD_about_17 : decode Y_MD_about.2.1 17 = .ok (.iconst (1), 1) := by decide +kernel
theorem d_MD_about_18 : decode Y_MD_about.2.1 18 = .ok (.invokevirtual 127, 3) := by decide +kernel
theorem d_MD_about_21 : decode Y_MD_about.2.1 21 = .ok (.ifCond .eq (5), 3) := by decide +kernel
theorem d_MD_about_24 : decode Y_MD_about.2.1 24 = .ok (.iconst (0), 1) := by decide +kernel
theorem d_MD_about_25 : decode Y_MD_about.2.1 25 = .ok (.ireturn, 1) := by decide +kernel
theorem d_MD_about_26 : decode Y_MD_about.2.1 26 = .ok (.iconst (0), 1) := by decide +kernel
theorem d_MD_about_27 : decode Y_MD_about.2.1 27 = .ok (.istore_n 2, 1) := by decide +kernel
theorem d_MD_about_28 : decode Y_MD_about.2.1 28 = .ok (.iconst (0), 1) := by decide +kernel
theorem d_MD_about_29 : decode Y_MD_about.2.1 29 = .ok (.istore_n 3, 1) := by decide +kernel
theorem d_MD_about_30 : decode Y_MD_about.2.1 30 = .ok (.iload_n 3, 1) := by decide +kernel
theorem d_MD_about_31 : decode Y_MD_about.2.1 31 = .ok (.aload_n 0, 1) := by decide +kernel
theorem d_MD_about_32 : decode Y_MD_about.2.1 32 = .ok (.getfield 13, 3) := by decide +kernel
theorem d_MD_about_35 : decode Y_MD_about.2.1 35 = .ok (.iconst (1), 1) := by decide +kernel
theorem d_MD_about_36 : decode Y_MD_about.2.1 36 = .ok (.iaload, 1) := by decide +kernel
theorem d_MD_about_37 : decode Y_MD_about.2.1 37 = .ok (.if_icmp .ge (21), 3) := by decide +kernel
theorem d_MD_about_40 : decode Y_MD_about.2.1 40 = .ok (.iload_n 2, 1) := by decide +kernel
theorem d_MD_about_41 : decode Y_MD_about.2.1 41 = .ok (.aload_n 0, 1) := by decide +kernel
theorem d_MD_about_42 : decode Y_MD_about.2.1 42 = .ok (.getfield 13, 3) := by decide +kernel
theorem d_MD_about_45 : decode Y_MD_about.2.1 45 = .ok (.iload_n 3, 1) := by decide +kernel
theorem d_MD_about_46 : decode Y_MD_about.2.1 46 = .ok (.iconst (4), 1) := by decide +kernel
theorem d_MD_about_47 : decode Y_MD_about.2.1 47 = .ok (.invokestatic 70, 3) := by decide +kernel
theorem d_MD_about_50 : decode Y_MD_about.2.1 50 = .ok (.iadd, 1) := by decide +kernel
theorem d_MD_about_51 : decode Y_MD_about.2.1 51 = .ok (.istore_n 2, 1) := by decide +kernel
theorem d_MD_about_52 : decode Y_MD_about.2.1 52 = .ok (.iinc 3 (1), 3) := by decide +kernel
theorem d_MD_about_55 : decode Y_MD_about.2.1 55 = .ok (.goto (-25), 3) := by decide +kernel
theorem d_MD_about_58 : decode Y_MD_about.2.1 58 = .ok (.iload_n 1, 1) := by decide +kernel
theorem d_MD_about_59 : decode Y_MD_about.2.1 59 = .ok (.bipush (9), 2) := by decide +kernel
theorem d_MD_about_61 : decode Y_MD_about.2.1 61 = .ok (.if_icmp .ge (12), 3) := by decide +kernel
theorem d_MD_about_64 : decode Y_MD_about.2.1 64 = .ok (.aload_n 0, 1) := by decide +kernel
theorem d_MD_about_65 : decode Y_MD_about.2.1 65 = .ok (.getfield 13, 3) := by decide +kernel
theorem d_MD_about_68 : decode Y_MD_about.2.1 68 = .ok (.iload_n 1, 1) := by decide +kernel
theorem d_MD_about_69 : decode Y_MD_about.2.1 69 = .ok (.iaload, 1) := by decide +kernel
theorem d_MD_about_70 : decode Y_MD_about.2.1 70 = .ok (.goto (4), 3) := by decide +kernel
theorem d_MD_about_73 : decode Y_MD_about.2.1 73 = .ok (.iload_n 2, 1) := by decide +kernel
theorem d_MD_about_74 : decode Y_MD_about.2.1 74 = .ok (.ireturn, 1) := by decide +kernel
def f_MD_about (w : zW) (D : zD) (a : Nat) (x1 : Int32) : Option (Int32 × zD) := zjp (fun (s0 : Nat) (s1 : Int32) (D1 : zD) => zobj w 8 s0 (zci (f_MD_refused w D1 s0 s1) (fun v2 D3 => (if v2 = 0 then zjp (zlp (fun (_ : Int32) (_ : Int32) (_ : zD) => none) (fun (j30 : Int32 → Int32 → zD → Option (Int32 × zD)) (x2 : Int32) (x3 : Int32) (D4 : zD) => zref w 8 3 a (fun p5 => zald w D4 0 p5 (1 : Int32) (fun v6 => (if v6 ≤ x3 then zjp (fun (s0 : Int32) (D7 : zD) => some (s0, D7)) (fun j74 => (if (9 : Int32) ≤ x1 then j74 x2 D4 else zref w 8 3 a (fun p8 => zald w D4 0 p8 x1 (fun v9 => j74 v9 D4)))) else zref w 8 3 a (fun p10 => zci (f_MD_ofHearer w D4 p10 x3 (4 : Int32)) (fun v11 D12 => zlet (x2 + v11) (fun v13 => zlet (x3 + (1 : Int32)) (fun v14 => j30 v13 v14 D12)))))))) zfuel) (fun j30 => j30 (0 : Int32) (0 : Int32) D3) else some ((0 : Int32), D3))))) (fun j18 => zci (f_MD_in w D x1.toInt64 (0 : Int64) (9 : Int64)) (fun v15 D16 => (if v15 = 0 then j18 a (1 : Int32) D16 else j18 a (0 : Int32) D16)))
set_option maxHeartbeats 4000000 in
set_option maxRecDepth 100000 in
theorem c_MD_about (z : zT) (D : zD) (a : Nat) (x1 : Int32) : zM Y_MD_about 2 0 0 (zqI z) (f_MD_about z.2 D a x1) [.ref a, .int x1] z D := by
  refine zM_of (plainFor_of_name (by decide +kernel)) rfl (Nat.le_of_ble_eq_true rfl) (fun _ _ _ _ h => nomatch h.1) (fun K => ?_)
  unfold f_MD_about
  refine z_jp (fun j18 : Nat → Int32 → zD → Option (Int32 × zD) => ∀ (s0 : Nat) (s1 : Int32) (D1 : zD), zGO K Y_MD_about 2 0 0 (zqI z) (j18 s0 s1 D1) 0 0 z D1 18 [(0, .ref a), (1, .int x1)] [.int s1, .ref s0]) (fun s0 s1 D1 => ?_) (fun j18 h18 => ?_)
  · refine z_callVi (pc := 18) [.int s1] lkV_MD_127 rfl (c_MD_refused z D1 s0 s1) (by decide) rfl rfl (Nat.le_of_ble_eq_true rfl) d_MD_about_18 (fun v2 D3 => ?_)
    refine z_if_eq (pc := 21) (tgt := 26) d_MD_about_21 (by decide) ?_ ?_
    · refine z_jp (fun j30 : Int32 → Int32 → zD → Option (Int32 × zD) => ∀ (x2 : Int32) (x3 : Int32) (D4 : zD), zGO K Y_MD_about 2 0 0 (zqI z) (j30 x2 x3 D4) 0 0 z D4 30 [(0, .ref a), (1, .int x1), (2, .int x2), (3, .int x3)] []) (z_lp (fun j30 : Int32 → Int32 → zD → Option (Int32 × zD) => ∀ (x2 : Int32) (x3 : Int32) (D4 : zD), zGO K Y_MD_about 2 0 0 (zqI z) (j30 x2 x3 D4) 0 0 z D4 30 [(0, .ref a), (1, .int x1), (2, .int x2), (3, .int x3)] []) (fun _ _ _ => z_none) (fun j30 h30 x2 x3 D4 => ?_) zfuel) (fun j30 h30 => ?_)
      · refine z_iload_n (pc := 30) d_MD_about_30 rfl 3 rfl ?_
        refine z_aload_n (pc := 31) d_MD_about_31 rfl 0 rfl ?_
        refine z_getR (pc := 32) fl_MD_13 d_MD_about_32 (fun p5 => ?_)
        refine z_iconst (pc := 35) d_MD_about_35 ki_1 ?_
        refine z_iaload (pc := 36) d_MD_about_36 (fun v6 => ?_)
        refine z_icmp_ge (pc := 37) (tgt := 58) d_MD_about_37 (by decide) ?_ ?_
        · refine z_jp (fun j74 : Int32 → zD → Option (Int32 × zD) => ∀ (s0 : Int32) (D7 : zD), zGO K Y_MD_about 2 0 0 (zqI z) (j74 s0 D7) 0 0 z D7 74 [] [.int s0]) (fun s0 D7 => ?_) (fun j74 h74 => ?_)
          · exact z_iret (pc := 74) d_MD_about_74 rfl
          · refine z_iload_n (pc := 58) d_MD_about_58 rfl 1 rfl ?_
            refine z_bipush (pc := 59) d_MD_about_59 kb_9 ?_
            refine z_icmp_ge (pc := 61) (tgt := 73) d_MD_about_61 (by decide) ?_ ?_
            · refine z_iload_n (pc := 73) d_MD_about_73 rfl 2 rfl ?_
              exact z_sub [] rfl (h74 x2 D4)
            · refine z_aload_n (pc := 64) d_MD_about_64 rfl 0 rfl ?_
              refine z_getR (pc := 65) fl_MD_13 d_MD_about_65 (fun p8 => ?_)
              refine z_iload_n (pc := 68) d_MD_about_68 rfl 1 rfl ?_
              refine z_iaload (pc := 69) d_MD_about_69 (fun v9 => ?_)
              refine z_goto (pc := 70) (tgt := 74) d_MD_about_70 (by decide) ?_
              exact z_sub [] rfl (h74 v9 D4)
        · refine z_iload_n (pc := 40) d_MD_about_40 rfl 2 rfl ?_
          refine z_aload_n (pc := 41) d_MD_about_41 rfl 0 rfl ?_
          refine z_getR (pc := 42) fl_MD_13 d_MD_about_42 (fun p10 => ?_)
          refine z_iload_n (pc := 45) d_MD_about_45 rfl 3 rfl ?_
          refine z_iconst (pc := 46) d_MD_about_46 ki_4 ?_
          refine z_callSi (pc := 47) [.ref p10, .int x3, .int (4 : Int32)] lkS_MD_70 (c_MD_ofHearer z D4 p10 x3 (4 : Int32)) (by decide) rfl rfl (Nat.le_of_ble_eq_true rfl) d_MD_about_47 (fun v11 D12 => ?_)
          refine z_iadd (pc := 50) d_MD_about_50 ?_
          refine z_leti (fun v13 => ?_)
          refine z_istore_n (pc := 51) d_MD_about_51 rfl (by decide) (lv' := [(2, .int v13), (0, .ref a), (1, .int x1), (3, .int x3)]) rfl ?_
          refine z_iincL (pc := 52) d_MD_about_52 ki_1 3 rfl (by decide) (fun v14 => z_lvc (lv2 := [(3, .int v14), (2, .int v13), (0, .ref a), (1, .int x1)]) rfl ?_)
          refine z_goto (pc := 55) (tgt := 30) d_MD_about_55 (by decide) ?_
          exact z_sub [2, 3, 1, 0] rfl (h30 v13 v14 D12)
      · refine z_iconst (pc := 26) d_MD_about_26 ki_0 ?_
        refine z_istore_n (pc := 27) d_MD_about_27 rfl (by decide) (lv' := [(2, .int (0 : Int32)), (0, .ref a), (1, .int x1)]) rfl ?_
        refine z_iconst (pc := 28) d_MD_about_28 ki_0 ?_
        refine z_istore_n (pc := 29) d_MD_about_29 rfl (by decide) (lv' := [(3, .int (0 : Int32)), (2, .int (0 : Int32)), (0, .ref a), (1, .int x1)]) rfl ?_
        exact z_sub [2, 3, 1, 0] rfl (h30 (0 : Int32) (0 : Int32) D3)
    · refine z_iconst (pc := 24) d_MD_about_24 ki_0 ?_
      exact z_iret (pc := 25) d_MD_about_25 rfl
  · refine z_aload_n (pc := 0) d_MD_about_0 rfl 0 rfl ?_
    refine z_iload_n (pc := 1) d_MD_about_1 rfl 1 rfl ?_
    refine z_i2l (pc := 2) d_MD_about_2 ?_
    refine z_lconst (pc := 3) d_MD_about_3 (v := 0) rfl ?_
    refine z_ldc2 (pc := 4) w_k_MD_41 d_MD_about_4 ?_
    refine z_callSi (pc := 7) [.long x1.toInt64, .long (0 : Int64), .long (9 : Int64)] lkS_MD_37 (c_MD_in z D x1.toInt64 (0 : Int64) (9 : Int64)) (by decide) rfl rfl (Nat.le_of_ble_eq_true rfl) d_MD_about_7 (fun v15 D16 => ?_)
    refine z_if_eq (pc := 10) (tgt := 17) d_MD_about_10 (by decide) ?_ ?_
    · refine z_iconst (pc := 17) d_MD_about_17 ki_1 ?_
      exact z_sub [0, 1] rfl (h18 a (1 : Int32) D16)
    · refine z_iconst (pc := 13) d_MD_about_13 ki_0 ?_
      refine z_goto (pc := 14) (tgt := 18) d_MD_about_14 (by decide) ?_
      exact z_sub [0, 1] rfl (h18 a (0 : Int32) D16)
theorem d_MD_wallOf_0 : decode Y_MD_wallOf.2.1 0 = .ok (.aload_n 0, 1) := by decide +kernel
theorem d_MD_wallOf_1 : decode Y_MD_wallOf.2.1 1 = .ok (.iload_n 1, 1) := by decide +kernel
theorem d_MD_wallOf_2 : decode Y_MD_wallOf.2.1 2 = .ok (.i2l, 1) := by decide +kernel
theorem d_MD_wallOf_3 : decode Y_MD_wallOf.2.1 3 = .ok (.lconst 0, 1) := by decide +kernel
theorem d_MD_wallOf_4 : decode Y_MD_wallOf.2.1 4 = .ok (.aload_n 0, 1) := by decide +kernel
theorem d_MD_wallOf_5 : decode Y_MD_wallOf.2.1 5 = .ok (.getfield 13, 3) := by decide +kernel
theorem d_MD_wallOf_8 : decode Y_MD_wallOf.2.1 8 = .ok (.iconst (2), 1) := by decide +kernel
theorem d_MD_wallOf_9 : decode Y_MD_wallOf.2.1 9 = .ok (.iaload, 1) := by decide +kernel
theorem d_MD_wallOf_10 : decode Y_MD_wallOf.2.1 10 = .ok (.iconst (1), 1) := by decide +kernel
theorem d_MD_wallOf_11 : decode Y_MD_wallOf.2.1 11 = .ok (.isub, 1) := by decide +kernel
theorem d_MD_wallOf_12 : decode Y_MD_wallOf.2.1 12 = .ok (.i2l, 1) := by decide +kernel
theorem d_MD_wallOf_13 : decode Y_MD_wallOf.2.1 13 = .ok (.invokestatic 37, 3) := by decide +kernel
theorem d_MD_wallOf_16 : decode Y_MD_wallOf.2.1 16 = .ok (.ifCond .ne (7), 3) := by decide +kernel
theorem d_MD_wallOf_19 : decode Y_MD_wallOf.2.1 19 = .ok (.iconst (1), 1) := by decide +kernel
theorem d_MD_wallOf_20 : decode Y_MD_wallOf.2.1 20 = .ok (.goto (18), 3) := by decide +kernel
theorem d_MD_wallOf_23 : decode Y_MD_wallOf.2.1 23 = .ok (.iload_n 2, 1) := by decide +kernel
theorem d_MD_wallOf_24 : decode Y_MD_wallOf.2.1 24 = .ok (.i2l, 1) := by decide +kernel
theorem d_MD_wallOf_25 : decode Y_MD_wallOf.2.1 25 = .ok (.lconst 0, 1) := by decide +kernel
theorem d_MD_wallOf_26 : decode Y_MD_wallOf.2.1 26 = .ok (.lconst 1, 1) := by decide +kernel
theorem d_MD_wallOf_27 : decode Y_MD_wallOf.2.1 27 = .ok (.invokestatic 37, 3) := by decide +kernel
theorem d_MD_wallOf_30 : decode Y_MD_wallOf.2.1 30 = .ok (.ifCond .eq (7), 3) := by decide +kernel
theorem d_MD_wallOf_33 : decode Y_MD_wallOf.2.1 33 = .ok (.iconst (0), 1) := by decide +kernel
theorem d_MD_wallOf_34 : decode Y_MD_wallOf.2.1 34 = .ok (.goto (4), 3) := by decide +kernel
theorem d_MD_wallOf_37 : decode Y_MD_wallOf.2.1 37 = .ok (.iconst (2), 1) := by decide +kernel
theorem d_MD_wallOf_38 : decode Y_MD_wallOf.2.1 38 = .ok (.invokevirtual 127, 3) := by decide +kernel
theorem d_MD_wallOf_41 : decode Y_MD_wallOf.2.1 41 = .ok (.ifCond .eq (5), 3) := by decide +kernel
theorem d_MD_wallOf_44 : decode Y_MD_wallOf.2.1 44 = .ok (.iconst (0), 1) := by decide +kernel
theorem d_MD_wallOf_45 : decode Y_MD_wallOf.2.1 45 = .ok (.ireturn, 1) := by decide +kernel
theorem d_MD_wallOf_46 : decode Y_MD_wallOf.2.1 46 = .ok (.aload_n 0, 1) := by decide +kernel
theorem d_MD_wallOf_47 : decode Y_MD_wallOf.2.1 47 = .ok (.getfield 13, 3) := by decide +kernel
theorem d_MD_wallOf_50 : decode Y_MD_wallOf.2.1 50 = .ok (.bipush (59), 2) := by decide +kernel
theorem d_MD_wallOf_52 : decode Y_MD_wallOf.2.1 52 = .ok (.iconst (2), 1) := by decide +kernel
theorem d_MD_wallOf_53 : decode Y_MD_wallOf.2.1 53 = .ok (.iload_n 1, 1) := by decide +kernel
theorem d_MD_wallOf_54 : decode Y_MD_wallOf.2.1 54 = .ok (.imul, 1) := by decide +kernel
theorem d_MD_wallOf_55 : decode Y_MD_wallOf.2.1 55 = .ok (.iadd, 1) := by decide +kernel
theorem d_MD_wallOf_56 : decode Y_MD_wallOf.2.1 56 = .ok (.iload_n 2, 1) := by decide +kernel
theorem d_MD_wallOf_57 : decode Y_MD_wallOf.2.1 57 = .ok (.iadd, 1) := by decide +kernel
theorem d_MD_wallOf_58 : decode Y_MD_wallOf.2.1 58 = .ok (.iaload, 1) := by decide +kernel
theorem d_MD_wallOf_59 : decode Y_MD_wallOf.2.1 59 = .ok (.ireturn, 1) := by decide +kernel
def f_MD_wallOf (w : zW) (D : zD) (a : Nat) (x1 : Int32) (x2 : Int32) : Option (Int32 × zD) := zjp (fun (s0 : Nat) (s1 : Int32) (D1 : zD) => zobj w 8 s0 (zci (f_MD_refused w D1 s0 s1) (fun v2 D3 => (if v2 = 0 then zref w 8 3 a (fun p4 => zald w D3 0 p4 (((59 : Int32) + ((2 : Int32) * x1)) + x2) (fun v5 => some (v5, D3))) else some ((0 : Int32), D3))))) (fun j38 => zref w 8 3 a (fun p6 => zald w D 0 p6 (2 : Int32) (fun v7 => zci (f_MD_in w D x1.toInt64 (0 : Int64) ((v7 - (1 : Int32)).toInt64)) (fun v8 D9 => (if v8 = 0 then j38 a (1 : Int32) D9 else zci (f_MD_in w D9 x2.toInt64 (0 : Int64) (1 : Int64)) (fun v10 D11 => (if v10 = 0 then j38 a (2 : Int32) D11 else j38 a (0 : Int32) D11)))))))
set_option maxHeartbeats 4000000 in
set_option maxRecDepth 100000 in
theorem c_MD_wallOf (z : zT) (D : zD) (a : Nat) (x1 : Int32) (x2 : Int32) : zM Y_MD_wallOf 2 0 0 (zqI z) (f_MD_wallOf z.2 D a x1 x2) [.ref a, .int x1, .int x2] z D := by
  refine zM_of (plainFor_of_name (by decide +kernel)) rfl (Nat.le_of_ble_eq_true rfl) (fun _ _ _ _ h => nomatch h.1) (fun K => ?_)
  unfold f_MD_wallOf
  refine z_jp (fun j38 : Nat → Int32 → zD → Option (Int32 × zD) => ∀ (s0 : Nat) (s1 : Int32) (D1 : zD), zGO K Y_MD_wallOf 2 0 0 (zqI z) (j38 s0 s1 D1) 0 0 z D1 38 [(0, .ref a), (1, .int x1), (2, .int x2)] [.int s1, .ref s0]) (fun s0 s1 D1 => ?_) (fun j38 h38 => ?_)
  · refine z_callVi (pc := 38) [.int s1] lkV_MD_127 rfl (c_MD_refused z D1 s0 s1) (by decide) rfl rfl (Nat.le_of_ble_eq_true rfl) d_MD_wallOf_38 (fun v2 D3 => ?_)
    refine z_if_eq (pc := 41) (tgt := 46) d_MD_wallOf_41 (by decide) ?_ ?_
    · refine z_aload_n (pc := 46) d_MD_wallOf_46 rfl 0 rfl ?_
      refine z_getR (pc := 47) fl_MD_13 d_MD_wallOf_47 (fun p4 => ?_)
      refine z_bipush (pc := 50) d_MD_wallOf_50 kb_59 ?_
      refine z_iconst (pc := 52) d_MD_wallOf_52 ki_2 ?_
      refine z_iload_n (pc := 53) d_MD_wallOf_53 rfl 1 rfl ?_
      refine z_imul (pc := 54) d_MD_wallOf_54 ?_
      refine z_iadd (pc := 55) d_MD_wallOf_55 ?_
      refine z_iload_n (pc := 56) d_MD_wallOf_56 rfl 2 rfl ?_
      refine z_iadd (pc := 57) d_MD_wallOf_57 ?_
      refine z_iaload (pc := 58) d_MD_wallOf_58 (fun v5 => ?_)
      exact z_iret (pc := 59) d_MD_wallOf_59 rfl
    · refine z_iconst (pc := 44) d_MD_wallOf_44 ki_0 ?_
      exact z_iret (pc := 45) d_MD_wallOf_45 rfl
  · refine z_aload_n (pc := 0) d_MD_wallOf_0 rfl 0 rfl ?_
    refine z_iload_n (pc := 1) d_MD_wallOf_1 rfl 1 rfl ?_
    refine z_i2l (pc := 2) d_MD_wallOf_2 ?_
    refine z_lconst (pc := 3) d_MD_wallOf_3 (v := 0) rfl ?_
    refine z_aload_n (pc := 4) d_MD_wallOf_4 rfl 0 rfl ?_
    refine z_getR (pc := 5) fl_MD_13 d_MD_wallOf_5 (fun p6 => ?_)
    refine z_iconst (pc := 8) d_MD_wallOf_8 ki_2 ?_
    refine z_iaload (pc := 9) d_MD_wallOf_9 (fun v7 => ?_)
    refine z_iconst (pc := 10) d_MD_wallOf_10 ki_1 ?_
    refine z_isub (pc := 11) d_MD_wallOf_11 ?_
    refine z_i2l (pc := 12) d_MD_wallOf_12 ?_
    refine z_callSi (pc := 13) [.long x1.toInt64, .long (0 : Int64), .long ((v7 - (1 : Int32)).toInt64)] lkS_MD_37 (c_MD_in z D x1.toInt64 (0 : Int64) ((v7 - (1 : Int32)).toInt64)) (by decide) rfl rfl (Nat.le_of_ble_eq_true rfl) d_MD_wallOf_13 (fun v8 D9 => ?_)
    refine z_if_ne (pc := 16) (tgt := 23) d_MD_wallOf_16 (by decide) ?_ ?_
    · refine z_iconst (pc := 19) d_MD_wallOf_19 ki_1 ?_
      refine z_goto (pc := 20) (tgt := 38) d_MD_wallOf_20 (by decide) ?_
      exact z_sub [0, 1, 2] rfl (h38 a (1 : Int32) D9)
    · refine z_iload_n (pc := 23) d_MD_wallOf_23 rfl 2 rfl ?_
      refine z_i2l (pc := 24) d_MD_wallOf_24 ?_
      refine z_lconst (pc := 25) d_MD_wallOf_25 (v := 0) rfl ?_
      refine z_lconst (pc := 26) d_MD_wallOf_26 (v := 1) rfl ?_
      refine z_callSi (pc := 27) [.long x2.toInt64, .long (0 : Int64), .long (1 : Int64)] lkS_MD_37 (c_MD_in z D9 x2.toInt64 (0 : Int64) (1 : Int64)) (by decide) rfl rfl (Nat.le_of_ble_eq_true rfl) d_MD_wallOf_27 (fun v10 D11 => ?_)
      refine z_if_eq (pc := 30) (tgt := 37) d_MD_wallOf_30 (by decide) ?_ ?_
      · refine z_iconst (pc := 37) d_MD_wallOf_37 ki_2 ?_
        exact z_sub [0, 1, 2] rfl (h38 a (2 : Int32) D11)
      · refine z_iconst (pc := 33) d_MD_wallOf_33 ki_0 ?_
        refine z_goto (pc := 34) (tgt := 38) d_MD_wallOf_34 (by decide) ?_
        exact z_sub [0, 1, 2] rfl (h38 a (0 : Int32) D11)
theorem d_MD_pulse_0 : decode Y_MD_pulse.2.1 0 = .ok (.aload_n 0, 1) := by decide +kernel
theorem d_MD_pulse_1 : decode Y_MD_pulse.2.1 1 = .ok (.iload_n 1, 1) := by decide +kernel
theorem d_MD_pulse_2 : decode Y_MD_pulse.2.1 2 = .ok (.i2l, 1) := by decide +kernel
theorem d_MD_pulse_3 : decode Y_MD_pulse.2.1 3 = .ok (.lconst 0, 1) := by decide +kernel
theorem d_MD_pulse_4 : decode Y_MD_pulse.2.1 4 = .ok (.aload_n 0, 1) := by decide +kernel
theorem d_MD_pulse_5 : decode Y_MD_pulse.2.1 5 = .ok (.getfield 13, 3) := by decide +kernel
theorem d_MD_pulse_8 : decode Y_MD_pulse.2.1 8 = .ok (.iconst (4), 1) := by decide +kernel
theorem d_MD_pulse_9 : decode Y_MD_pulse.2.1 9 = .ok (.iaload, 1) := by decide +kernel
theorem d_MD_pulse_10 : decode Y_MD_pulse.2.1 10 = .ok (.iconst (1), 1) := by decide +kernel
theorem d_MD_pulse_11 : decode Y_MD_pulse.2.1 11 = .ok (.isub, 1) := by decide +kernel
theorem d_MD_pulse_12 : decode Y_MD_pulse.2.1 12 = .ok (.i2l, 1) := by decide +kernel
theorem d_MD_pulse_13 : decode Y_MD_pulse.2.1 13 = .ok (.invokestatic 37, 3) := by decide +kernel
theorem d_MD_pulse_16 : decode Y_MD_pulse.2.1 16 = .ok (.ifCond .ne (7), 3) := by decide +kernel
theorem d_MD_pulse_19 : decode Y_MD_pulse.2.1 19 = .ok (.iconst (1), 1) := by decide +kernel
theorem d_MD_pulse_20 : decode Y_MD_pulse.2.1 20 = .ok (.goto (20), 3) := by decide +kernel
theorem d_MD_pulse_23 : decode Y_MD_pulse.2.1 23 = .ok (.iload_n 2, 1) := by decide +kernel
theorem d_MD_pulse_24 : decode Y_MD_pulse.2.1 24 = .ok (.i2l, 1) := by decide +kernel
theorem d_MD_pulse_25 : decode Y_MD_pulse.2.1 25 = .ok (.lconst 0, 1) := by decide +kernel
theorem d_MD_pulse_26 : decode Y_MD_pulse.2.1 26 = .ok (.ldc2_w 198, 3) := by decide +kernel
theorem d_MD_pulse_29 : decode Y_MD_pulse.2.1 29 = .ok (.invokestatic 37, 3) := by decide +kernel
theorem d_MD_pulse_32 : decode Y_MD_pulse.2.1 32 = .ok (.ifCond .eq (7), 3) := by decide +kernel
theorem d_MD_pulse_35 : decode Y_MD_pulse.2.1 35 = .ok (.iconst (0), 1) := by decide +kernel
theorem d_MD_pulse_36 : decode Y_MD_pulse.2.1 36 = .ok (.goto (4), 3) := by decide +kernel
theorem d_MD_pulse_39 : decode Y_MD_pulse.2.1 39 = .ok (.iconst (2), 1) := by decide +kernel
theorem d_MD_pulse_40 : decode Y_MD_pulse.2.1 40 = .ok (.invokevirtual 127, 3) := by decide +kernel
theorem d_MD_pulse_43 : decode Y_MD_pulse.2.1 43 = .ok (.ifCond .eq (5), 3) := by decide +kernel
theorem d_MD_pulse_46 : decode Y_MD_pulse.2.1 46 = .ok (.iconst (0), 1) := by decide +kernel
theorem d_MD_pulse_47 : decode Y_MD_pulse.2.1 47 = .ok (.ireturn, 1) := by decide +kernel
theorem d_MD_pulse_48 : decode Y_MD_pulse.2.1 48 = .ok (.aload_n 0, 1) := by decide +kernel
theorem d_MD_pulse_49 : decode Y_MD_pulse.2.1 49 = .ok (.getfield 13, 3) := by decide +kernel
theorem d_MD_pulse_52 : decode Y_MD_pulse.2.1 52 = .ok (.iload_n 1, 1) := by decide +kernel
theorem d_MD_pulse_53 : decode Y_MD_pulse.2.1 53 = .ok (.iload_n 2, 1) := by decide +kernel
theorem d_MD_pulse_54 : decode Y_MD_pulse.2.1 54 = .ok (.invokestatic 67, 3) := by decide +kernel
theorem d_MD_pulse_57 : decode Y_MD_pulse.2.1 57 = .ok (.ireturn, 1) := by decide +kernel
def f_MD_pulse (w : zW) (D : zD) (a : Nat) (x1 : Int32) (x2 : Int32) : Option (Int32 × zD) := zjp (fun (s0 : Nat) (s1 : Int32) (D1 : zD) => zobj w 8 s0 (zci (f_MD_refused w D1 s0 s1) (fun v2 D3 => (if v2 = 0 then zref w 8 3 a (fun p4 => zci (f_MD_pulseAt w D3 p4 x1 x2) (fun v5 D6 => some (v5, D6))) else some ((0 : Int32), D3))))) (fun j40 => zref w 8 3 a (fun p7 => zald w D 0 p7 (4 : Int32) (fun v8 => zci (f_MD_in w D x1.toInt64 (0 : Int64) ((v8 - (1 : Int32)).toInt64)) (fun v9 D10 => (if v9 = 0 then j40 a (1 : Int32) D10 else zci (f_MD_in w D10 x2.toInt64 (0 : Int64) (5 : Int64)) (fun v11 D12 => (if v11 = 0 then j40 a (2 : Int32) D12 else j40 a (0 : Int32) D12)))))))
set_option maxHeartbeats 4000000 in
set_option maxRecDepth 100000 in
theorem c_MD_pulse (z : zT) (D : zD) (a : Nat) (x1 : Int32) (x2 : Int32) : zM Y_MD_pulse 2 0 0 (zqI z) (f_MD_pulse z.2 D a x1 x2) [.ref a, .int x1, .int x2] z D := by
  refine zM_of (plainFor_of_name (by decide +kernel)) rfl (Nat.le_of_ble_eq_true rfl) (fun _ _ _ _ h => nomatch h.1) (fun K => ?_)
  unfold f_MD_pulse
  refine z_jp (fun j40 : Nat → Int32 → zD → Option (Int32 × zD) => ∀ (s0 : Nat) (s1 : Int32) (D1 : zD), zGO K Y_MD_pulse 2 0 0 (zqI z) (j40 s0 s1 D1) 0 0 z D1 40 [(0, .ref a), (1, .int x1), (2, .int x2)] [.int s1, .ref s0]) (fun s0 s1 D1 => ?_) (fun j40 h40 => ?_)
  · refine z_callVi (pc := 40) [.int s1] lkV_MD_127 rfl (c_MD_refused z D1 s0 s1) (by decide) rfl rfl (Nat.le_of_ble_eq_true rfl) d_MD_pulse_40 (fun v2 D3 => ?_)
    refine z_if_eq (pc := 43) (tgt := 48) d_MD_pulse_43 (by decide) ?_ ?_
    · refine z_aload_n (pc := 48) d_MD_pulse_48 rfl 0 rfl ?_
      refine z_getR (pc := 49) fl_MD_13 d_MD_pulse_49 (fun p4 => ?_)
      refine z_iload_n (pc := 52) d_MD_pulse_52 rfl 1 rfl ?_
      refine z_iload_n (pc := 53) d_MD_pulse_53 rfl 2 rfl ?_
      refine z_callSi (pc := 54) [.ref p4, .int x1, .int x2] lkS_MD_67 (c_MD_pulseAt z D3 p4 x1 x2) (by decide) rfl rfl (Nat.le_of_ble_eq_true rfl) d_MD_pulse_54 (fun v5 D6 => ?_)
      exact z_iret (pc := 57) d_MD_pulse_57 rfl
    · refine z_iconst (pc := 46) d_MD_pulse_46 ki_0 ?_
      exact z_iret (pc := 47) d_MD_pulse_47 rfl
  · refine z_aload_n (pc := 0) d_MD_pulse_0 rfl 0 rfl ?_
    refine z_iload_n (pc := 1) d_MD_pulse_1 rfl 1 rfl ?_
    refine z_i2l (pc := 2) d_MD_pulse_2 ?_
    refine z_lconst (pc := 3) d_MD_pulse_3 (v := 0) rfl ?_
    refine z_aload_n (pc := 4) d_MD_pulse_4 rfl 0 rfl ?_
    refine z_getR (pc := 5) fl_MD_13 d_MD_pulse_5 (fun p7 => ?_)
    refine z_iconst (pc := 8) d_MD_pulse_8 ki_4 ?_
    refine z_iaload (pc := 9) d_MD_pulse_9 (fun v8 => ?_)
    refine z_iconst (pc := 10) d_MD_pulse_10 ki_1 ?_
    refine z_isub (pc := 11) d_MD_pulse_11 ?_
    refine z_i2l (pc := 12) d_MD_pulse_12 ?_
    refine z_callSi (pc := 13) [.long x1.toInt64, .long (0 : Int64), .long ((v8 - (1 : Int32)).toInt64)] lkS_MD_37 (c_MD_in z D x1.toInt64 (0 : Int64) ((v8 - (1 : Int32)).toInt64)) (by decide) rfl rfl (Nat.le_of_ble_eq_true rfl) d_MD_pulse_13 (fun v9 D10 => ?_)
    refine z_if_ne (pc := 16) (tgt := 23) d_MD_pulse_16 (by decide) ?_ ?_
    · refine z_iconst (pc := 19) d_MD_pulse_19 ki_1 ?_
      refine z_goto (pc := 20) (tgt := 40) d_MD_pulse_20 (by decide) ?_
      exact z_sub [0, 1, 2] rfl (h40 a (1 : Int32) D10)
    · refine z_iload_n (pc := 23) d_MD_pulse_23 rfl 2 rfl ?_
      refine z_i2l (pc := 24) d_MD_pulse_24 ?_
      refine z_lconst (pc := 25) d_MD_pulse_25 (v := 0) rfl ?_
      refine z_ldc2 (pc := 26) w_k_MD_198 d_MD_pulse_26 ?_
      refine z_callSi (pc := 29) [.long x2.toInt64, .long (0 : Int64), .long (5 : Int64)] lkS_MD_37 (c_MD_in z D10 x2.toInt64 (0 : Int64) (5 : Int64)) (by decide) rfl rfl (Nat.le_of_ble_eq_true rfl) d_MD_pulse_29 (fun v11 D12 => ?_)
      refine z_if_eq (pc := 32) (tgt := 39) d_MD_pulse_32 (by decide) ?_ ?_
      · refine z_iconst (pc := 39) d_MD_pulse_39 ki_2 ?_
        exact z_sub [0, 1, 2] rfl (h40 a (2 : Int32) D12)
      · refine z_iconst (pc := 35) d_MD_pulse_35 ki_0 ?_
        refine z_goto (pc := 36) (tgt := 40) d_MD_pulse_36 (by decide) ?_
        exact z_sub [0, 1, 2] rfl (h40 a (0 : Int32) D12)
theorem d_MD_sounds_0 : decode Y_MD_sounds.2.1 0 = .ok (.aload_n 0, 1) := by decide +kernel
theorem d_MD_sounds_1 : decode Y_MD_sounds.2.1 1 = .ok (.bipush (65), 2) := by decide +kernel
theorem d_MD_sounds_3 : decode Y_MD_sounds.2.1 3 = .ok (.bipush (6), 2) := by decide +kernel
theorem d_MD_sounds_5 : decode Y_MD_sounds.2.1 5 = .ok (.iconst (4), 1) := by decide +kernel
theorem d_MD_sounds_6 : decode Y_MD_sounds.2.1 6 = .ok (.iload_n 1, 1) := by decide +kernel
theorem d_MD_sounds_7 : decode Y_MD_sounds.2.1 7 = .ok (.imul, 1) := by decide +kernel
theorem d_MD_sounds_8 : decode Y_MD_sounds.2.1 8 = .ok (.iload_n 2, 1) := by decide +kernel
theorem d_MD_sounds_9 : decode Y_MD_sounds.2.1 9 = .ok (.iadd, 1) := by decide +kernel
theorem d_MD_sounds_10 : decode Y_MD_sounds.2.1 10 = .ok (.imul, 1) := by decide +kernel
theorem d_MD_sounds_11 : decode Y_MD_sounds.2.1 11 = .ok (.iadd, 1) := by decide +kernel
theorem d_MD_sounds_12 : decode Y_MD_sounds.2.1 12 = .ok (.iconst (4), 1) := by decide +kernel
theorem d_MD_sounds_13 : decode Y_MD_sounds.2.1 13 = .ok (.iadd, 1) := by decide +kernel
theorem d_MD_sounds_14 : decode Y_MD_sounds.2.1 14 = .ok (.iaload, 1) := by decide +kernel
theorem d_MD_sounds_15 : decode Y_MD_sounds.2.1 15 = .ok (.istore_n 3, 1) := by decide +kernel
theorem d_MD_sounds_16 : decode Y_MD_sounds.2.1 16 = .ok (.aload_n 0, 1) := by decide +kernel
theorem d_MD_sounds_17 : decode Y_MD_sounds.2.1 17 = .ok (.iload_n 2, 1) := by decide +kernel
theorem d_MD_sounds_18 : decode Y_MD_sounds.2.1 18 = .ok (.iconst (4), 1) := by decide +kernel
theorem d_MD_sounds_19 : decode Y_MD_sounds.2.1 19 = .ok (.invokestatic 45, 3) := by decide +kernel
theorem d_MD_sounds_22 : decode Y_MD_sounds.2.1 22 = .ok (.istore 4, 2) := by decide +kernel
theorem d_MD_sounds_24 : decode Y_MD_sounds.2.1 24 = .ok (.iload_n 3, 1) := by decide +kernel
theorem d_MD_sounds_25 : decode Y_MD_sounds.2.1 25 = .ok (.iconst (-1), 1) := by decide +kernel
theorem d_MD_sounds_26 : decode Y_MD_sounds.2.1 26 = .ok (.if_icmp .ne (7), 3) := by decide +kernel
theorem d_MD_sounds_29 : decode Y_MD_sounds.2.1 29 = .ok (.iconst (-1), 1) := by decide +kernel
theorem d_MD_sounds_30 : decode Y_MD_sounds.2.1 30 = .ok (.goto (24), 3) := by decide +kernel
theorem d_MD_sounds_33 : decode Y_MD_sounds.2.1 33 = .ok (.iload_n 3, 1) := by decide +kernel
theorem d_MD_sounds_34 : decode Y_MD_sounds.2.1 34 = .ok (.iload 4, 2) := by decide +kernel
theorem d_MD_sounds_36 : decode Y_MD_sounds.2.1 36 = .ok (.if_icmp .ge (7), 3) := by decide +kernel
theorem d_MD_sounds_39 : decode Y_MD_sounds.2.1 39 = .ok (.iconst (1), 1) := by decide +kernel
theorem d_MD_sounds_40 : decode Y_MD_sounds.2.1 40 = .ok (.goto (14), 3) := by decide +kernel
theorem d_MD_sounds_43 : decode Y_MD_sounds.2.1 43 = .ok (.iload_n 3, 1) := by decide +kernel
theorem d_MD_sounds_44 : decode Y_MD_sounds.2.1 44 = .ok (.iload 4, 2) := by decide +kernel
theorem d_MD_sounds_46 : decode Y_MD_sounds.2.1 46 = .ok (.if_icmp .le (7), 3) := by decide +kernel
theorem d_MD_sounds_49 : decode Y_MD_sounds.2.1 49 = .ok (.iconst (2), 1) := by decide +kernel
theorem d_MD_sounds_50 : decode Y_MD_sounds.2.1 50 = .ok (.goto (4), 3) := by decide +kernel
theorem d_MD_sounds_53 : decode Y_MD_sounds.2.1 53 = .ok (.iconst (0), 1) := by decide +kernel
theorem d_MD_sounds_54 : decode Y_MD_sounds.2.1 54 = .ok (.ireturn, 1) := by decide +kernel
def f_MD_sounds (w : zW) (D : zD) (r0 : Nat) (x1 : Int32) (x2 : Int32) : Option (Int32 × zD) := zjp (fun (s0 : Int32) (D1 : zD) => some (s0, D1)) (fun j54 => zald w D 0 r0 (((65 : Int32) + ((6 : Int32) * (((4 : Int32) * x1) + x2))) + (4 : Int32)) (fun v2 => zci (f_MD_ofSiren w D r0 x2 (4 : Int32)) (fun v3 D4 => (if v2 = (-1 : Int32) then j54 (-1 : Int32) D4 else (if v3 ≤ v2 then (if v2 ≤ v3 then j54 (0 : Int32) D4 else j54 (2 : Int32) D4) else j54 (1 : Int32) D4)))))
set_option maxHeartbeats 4000000 in
set_option maxRecDepth 100000 in
theorem c_MD_sounds (z : zT) (D : zD) (r0 : Nat) (x1 : Int32) (x2 : Int32) : zM Y_MD_sounds 2 0 0 (zqI z) (f_MD_sounds z.2 D r0 x1 x2) [.ref r0, .int x1, .int x2] z D := by
  refine zM_of (plainFor_of_name (by decide +kernel)) rfl (Nat.le_of_ble_eq_true rfl) (fun _ _ _ _ h => nomatch h.1) (fun K => ?_)
  unfold f_MD_sounds
  refine z_jp (fun j54 : Int32 → zD → Option (Int32 × zD) => ∀ (s0 : Int32) (D1 : zD), zGO K Y_MD_sounds 2 0 0 (zqI z) (j54 s0 D1) 0 0 z D1 54 [] [.int s0]) (fun s0 D1 => ?_) (fun j54 h54 => ?_)
  · exact z_iret (pc := 54) d_MD_sounds_54 rfl
  · refine z_aload_n (pc := 0) d_MD_sounds_0 rfl 0 rfl ?_
    refine z_bipush (pc := 1) d_MD_sounds_1 kb_65 ?_
    refine z_bipush (pc := 3) d_MD_sounds_3 kb_6 ?_
    refine z_iconst (pc := 5) d_MD_sounds_5 ki_4 ?_
    refine z_iload_n (pc := 6) d_MD_sounds_6 rfl 1 rfl ?_
    refine z_imul (pc := 7) d_MD_sounds_7 ?_
    refine z_iload_n (pc := 8) d_MD_sounds_8 rfl 2 rfl ?_
    refine z_iadd (pc := 9) d_MD_sounds_9 ?_
    refine z_imul (pc := 10) d_MD_sounds_10 ?_
    refine z_iadd (pc := 11) d_MD_sounds_11 ?_
    refine z_iconst (pc := 12) d_MD_sounds_12 ki_4 ?_
    refine z_iadd (pc := 13) d_MD_sounds_13 ?_
    refine z_iaload (pc := 14) d_MD_sounds_14 (fun v2 => ?_)
    refine z_istore_n (pc := 15) d_MD_sounds_15 rfl (by decide) (lv' := [(3, .int v2), (0, .ref r0), (1, .int x1), (2, .int x2)]) rfl ?_
    refine z_aload_n (pc := 16) d_MD_sounds_16 rfl 1 rfl ?_
    refine z_iload_n (pc := 17) d_MD_sounds_17 rfl 3 rfl ?_
    refine z_iconst (pc := 18) d_MD_sounds_18 ki_4 ?_
    refine z_callSi (pc := 19) [.ref r0, .int x2, .int (4 : Int32)] lkS_MD_45 (c_MD_ofSiren z D r0 x2 (4 : Int32)) (by decide) rfl rfl (Nat.le_of_ble_eq_true rfl) d_MD_sounds_19 (fun v3 D4 => ?_)
    refine z_istore (pc := 22) d_MD_sounds_22 (by decide) (lv' := [(4, .int v3), (3, .int v2), (0, .ref r0), (1, .int x1), (2, .int x2)]) rfl ?_
    refine z_iload_n (pc := 24) d_MD_sounds_24 rfl 1 rfl ?_
    refine z_iconst (pc := 25) d_MD_sounds_25 ki_m1 ?_
    refine z_icmp_ne (pc := 26) (tgt := 33) d_MD_sounds_26 (by decide) ?_ ?_
    · refine z_iconst (pc := 29) d_MD_sounds_29 ki_m1 ?_
      refine z_goto (pc := 30) (tgt := 54) d_MD_sounds_30 (by decide) ?_
      exact z_sub [] rfl (h54 (-1 : Int32) D4)
    · refine z_iload_n (pc := 33) d_MD_sounds_33 rfl 1 rfl ?_
      refine z_iload (pc := 34) d_MD_sounds_34 0 rfl ?_
      refine z_icmp_ge (pc := 36) (tgt := 43) d_MD_sounds_36 (by decide) ?_ ?_
      · refine z_iload_n (pc := 43) d_MD_sounds_43 rfl 1 rfl ?_
        refine z_iload (pc := 44) d_MD_sounds_44 0 rfl ?_
        refine z_icmp_le (pc := 46) (tgt := 53) d_MD_sounds_46 (by decide) ?_ ?_
        · refine z_iconst (pc := 53) d_MD_sounds_53 ki_0 ?_
          exact z_sub [] rfl (h54 (0 : Int32) D4)
        · refine z_iconst (pc := 49) d_MD_sounds_49 ki_2 ?_
          refine z_goto (pc := 50) (tgt := 54) d_MD_sounds_50 (by decide) ?_
          exact z_sub [] rfl (h54 (2 : Int32) D4)
      · refine z_iconst (pc := 39) d_MD_sounds_39 ki_1 ?_
        refine z_goto (pc := 40) (tgt := 54) d_MD_sounds_40 (by decide) ?_
        exact z_sub [] rfl (h54 (1 : Int32) D4)
theorem d_MD_remember_0 : decode Y_MD_remember.2.1 0 = .ok (.aload_n 0, 1) := by decide +kernel
theorem d_MD_remember_1 : decode Y_MD_remember.2.1 1 = .ok (.getfield 192, 3) := by decide +kernel
theorem d_MD_remember_4 : decode Y_MD_remember.2.1 4 = .ok (.bipush (14), 2) := by decide +kernel
theorem d_MD_remember_6 : decode Y_MD_remember.2.1 6 = .ok (.if_icmp .ne (44), 3) := by decide +kernel
theorem d_MD_remember_9 : decode Y_MD_remember.2.1 9 = .ok (.iconst (0), 1) := by decide +kernel
theorem d_MD_remember_10 : decode Y_MD_remember.2.1 10 = .ok (.istore_n 1, 1) := by decide +kernel
theorem d_MD_remember_11 : decode Y_MD_remember.2.1 11 = .ok (.iload_n 1, 1) := by decide +kernel
theorem d_MD_remember_12 : decode Y_MD_remember.2.1 12 = .ok (.sipush (6773), 3) := by decide +kernel
theorem d_MD_remember_15 : decode Y_MD_remember.2.1 15 = .ok (.if_icmp .ge (25), 3) := by decide +kernel
theorem d_MD_remember_18 : decode Y_MD_remember.2.1 18 = .ok (.aload_n 0, 1) := by decide +kernel
theorem d_MD_remember_19 : decode Y_MD_remember.2.1 19 = .ok (.getfield 19, 3) := by decide +kernel
theorem d_MD_remember_22 : decode Y_MD_remember.2.1 22 = .ok (.iload_n 1, 1) := by decide +kernel
theorem d_MD_remember_23 : decode Y_MD_remember.2.1 23 = .ok (.aload_n 0, 1) := by decide +kernel
theorem d_MD_remember_24 : decode Y_MD_remember.2.1 24 = .ok (.getfield 19, 3) := by decide +kernel
theorem d_MD_remember_27 : decode Y_MD_remember.2.1 27 = .ok (.iload_n 1, 1) := by decide +kernel
theorem d_MD_remember_28 : decode Y_MD_remember.2.1 28 = .ok (.sipush (521), 3) := by decide +kernel
theorem d_MD_remember_31 : decode Y_MD_remember.2.1 31 = .ok (.iadd, 1) := by decide +kernel
theorem d_MD_remember_32 : decode Y_MD_remember.2.1 32 = .ok (.iaload, 1) := by decide +kernel
theorem d_MD_remember_33 : decode Y_MD_remember.2.1 33 = .ok (.iastore, 1) := by decide +kernel
theorem d_MD_remember_34 : decode Y_MD_remember.2.1 34 = .ok (.iinc 1 (1), 3) := by decide +kernel
theorem d_MD_remember_37 : decode Y_MD_remember.2.1 37 = .ok (.goto (-26), 3) := by decide +kernel
theorem d_MD_remember_40 : decode Y_MD_remember.2.1 40 = .ok (.aload_n 0, 1) := by decide +kernel
theorem d_MD_remember_41 : decode Y_MD_remember.2.1 41 = .ok (.dup, 1) := by decide +kernel
theorem d_MD_remember_42 : decode Y_MD_remember.2.1 42 = .ok (.getfield 192, 3) := by decide +kernel
theorem d_MD_remember_45 : decode Y_MD_remember.2.1 45 = .ok (.iconst (1), 1) := by decide +kernel
theorem d_MD_remember_46 : decode Y_MD_remember.2.1 46 = .ok (.isub, 1) := by decide +kernel
theorem d_MD_remember_47 : decode Y_MD_remember.2.1 47 = .ok (.putfield 192, 3) := by decide +kernel
theorem d_MD_remember_50 : decode Y_MD_remember.2.1 50 = .ok (.aload_n 0, 1) := by decide +kernel
theorem d_MD_remember_51 : decode Y_MD_remember.2.1 51 = .ok (.getfield 13, 3) := by decide +kernel
theorem d_MD_remember_54 : decode Y_MD_remember.2.1 54 = .ok (.iconst (0), 1) := by decide +kernel
theorem d_MD_remember_55 : decode Y_MD_remember.2.1 55 = .ok (.aload_n 0, 1) := by decide +kernel
theorem d_MD_remember_56 : decode Y_MD_remember.2.1 56 = .ok (.getfield 19, 3) := by decide +kernel
theorem d_MD_remember_59 : decode Y_MD_remember.2.1 59 = .ok (.sipush (521), 3) := by decide +kernel
theorem d_MD_remember_62 : decode Y_MD_remember.2.1 62 = .ok (.aload_n 0, 1) := by decide +kernel
theorem d_MD_remember_63 : decode Y_MD_remember.2.1 63 = .ok (.getfield 192, 3) := by decide +kernel
theorem d_MD_remember_66 : decode Y_MD_remember.2.1 66 = .ok (.imul, 1) := by decide +kernel
theorem d_MD_remember_67 : decode Y_MD_remember.2.1 67 = .ok (.invokestatic 188, 3) := by decide +kernel
theorem d_MD_remember_70 : decode Y_MD_remember.2.1 70 = .ok (.aload_n 0, 1) := by decide +kernel
theorem d_MD_remember_71 : decode Y_MD_remember.2.1 71 = .ok (.dup, 1) := by decide +kernel
theorem d_MD_remember_72 : decode Y_MD_remember.2.1 72 = .ok (.getfield 192, 3) := by decide +kernel
theorem d_MD_remember_75 : decode Y_MD_remember.2.1 75 = .ok (.iconst (1), 1) := by decide +kernel
theorem d_MD_remember_76 : decode Y_MD_remember.2.1 76 = .ok (.iadd, 1) := by decide +kernel
theorem d_MD_remember_77 : decode Y_MD_remember.2.1 77 = .ok (.putfield 192, 3) := by decide +kernel
theorem d_MD_remember_80 : decode Y_MD_remember.2.1 80 = .ok (.return_, 1) := by decide +kernel
def f_MD_remember (w : zW) (D : zD) (a : Nat) : Option (zD) := zjp (fun (D1 : zD) => zref w 8 3 a (fun p2 => zref w 8 5 a (fun p3 => zfld w D1 8 6 a (fun v4 => zcv (f_MD_copyState w D1 p2 (0 : Int32) p3 ((521 : Int32) * v4)) (fun D5 => zfld w D5 8 6 a (fun v6 => zput w D5 8 6 a (v6 + (1 : Int32)) (fun D7 => some D7))))))) (fun j50 => zfld w D 8 6 a (fun v8 => (if v8 = (14 : Int32) then zjp (zlp (fun (_ : Int32) (_ : zD) => none) (fun (j11 : Int32 → zD → Option (zD)) (x1 : Int32) (D9 : zD) => (if (6773 : Int32) ≤ x1 then zfld w D9 8 6 a (fun v10 => zput w D9 8 6 a (v10 - (1 : Int32)) (fun D11 => j50 D11)) else zref w 8 5 a (fun p12 => zref w 8 5 a (fun p13 => zald w D9 0 p13 (x1 + (521 : Int32)) (fun v14 => zast w D9 0 p12 x1 v14 (fun D15 => zlet (x1 + (1 : Int32)) (fun v16 => j11 v16 D15))))))) zfuel) (fun j11 => j11 (0 : Int32) D) else j50 D)))
set_option maxHeartbeats 4000000 in
set_option maxRecDepth 100000 in
theorem c_MD_remember (z : zT) (D : zD) (a : Nat) : zM Y_MD_remember 2 0 0 (zqV z) (f_MD_remember z.2 D a) [.ref a] z D := by
  refine zM_of (plainFor_of_name (by decide +kernel)) rfl (Nat.le_of_ble_eq_true rfl) (fun _ _ _ _ h => nomatch h.1) (fun K => ?_)
  unfold f_MD_remember
  refine z_jp (fun j50 : zD → Option (zD) => ∀ (D1 : zD), zGO K Y_MD_remember 2 0 0 (zqV z) (j50  D1) 0 0 z D1 50 [(0, .ref a)] []) (fun  D1 => ?_) (fun j50 h50 => ?_)
  · refine z_aload_n (pc := 50) d_MD_remember_50 rfl 0 rfl ?_
    refine z_getR (pc := 51) fl_MD_13 d_MD_remember_51 (fun p2 => ?_)
    refine z_iconst (pc := 54) d_MD_remember_54 ki_0 ?_
    refine z_aload_n (pc := 55) d_MD_remember_55 rfl 0 rfl ?_
    refine z_getR (pc := 56) fl_MD_19 d_MD_remember_56 (fun p3 => ?_)
    refine z_sipush (pc := 59) d_MD_remember_59 ks_521 ?_
    refine z_aload_n (pc := 62) d_MD_remember_62 rfl 0 rfl ?_
    refine z_getI (pc := 63) fl_MD_192 d_MD_remember_63 (fun v4 => ?_)
    refine z_imul (pc := 66) d_MD_remember_66 ?_
    refine z_callSv (pc := 67) [.ref p2, .int (0 : Int32), .ref p3, .int ((521 : Int32) * v4)] lkS_MD_188 (c_MD_copyState z D1 p2 (0 : Int32) p3 ((521 : Int32) * v4)) (by decide) rfl rfl (Nat.le_of_ble_eq_true rfl) d_MD_remember_67 (fun D5 => ?_)
    refine z_aload_n (pc := 70) d_MD_remember_70 rfl 0 rfl ?_
    refine z_dup (pc := 71) d_MD_remember_71 rfl ?_
    refine z_getI (pc := 72) fl_MD_192 d_MD_remember_72 (fun v6 => ?_)
    refine z_iconst (pc := 75) d_MD_remember_75 ki_1 ?_
    refine z_iadd (pc := 76) d_MD_remember_76 ?_
    refine z_putI (pc := 77) fl_MD_192 d_MD_remember_77 (fun D7 => ?_)
    exact z_vret (pc := 80) d_MD_remember_80 rfl
  · refine z_aload_n (pc := 0) d_MD_remember_0 rfl 0 rfl ?_
    refine z_getI (pc := 1) fl_MD_192 d_MD_remember_1 (fun v8 => ?_)
    refine z_bipush (pc := 4) d_MD_remember_4 kb_14 ?_
    refine z_icmp_ne (pc := 6) (tgt := 50) d_MD_remember_6 (by decide) ?_ ?_
    · refine z_jp (fun j11 : Int32 → zD → Option (zD) => ∀ (x1 : Int32) (D9 : zD), zGO K Y_MD_remember 2 0 0 (zqV z) (j11 x1 D9) 0 0 z D9 11 [(0, .ref a), (1, .int x1)] []) (z_lp (fun j11 : Int32 → zD → Option (zD) => ∀ (x1 : Int32) (D9 : zD), zGO K Y_MD_remember 2 0 0 (zqV z) (j11 x1 D9) 0 0 z D9 11 [(0, .ref a), (1, .int x1)] []) (fun _ _ => z_none) (fun j11 h11 x1 D9 => ?_) zfuel) (fun j11 h11 => ?_)
      · refine z_iload_n (pc := 11) d_MD_remember_11 rfl 1 rfl ?_
        refine z_sipush (pc := 12) d_MD_remember_12 ks_6773 ?_
        refine z_icmp_ge (pc := 15) (tgt := 40) d_MD_remember_15 (by decide) ?_ ?_
        · refine z_aload_n (pc := 40) d_MD_remember_40 rfl 0 rfl ?_
          refine z_dup (pc := 41) d_MD_remember_41 rfl ?_
          refine z_getI (pc := 42) fl_MD_192 d_MD_remember_42 (fun v10 => ?_)
          refine z_iconst (pc := 45) d_MD_remember_45 ki_1 ?_
          refine z_isub (pc := 46) d_MD_remember_46 ?_
          refine z_putI (pc := 47) fl_MD_192 d_MD_remember_47 (fun D11 => ?_)
          exact z_sub [0] rfl (h50 D11)
        · refine z_aload_n (pc := 18) d_MD_remember_18 rfl 0 rfl ?_
          refine z_getR (pc := 19) fl_MD_19 d_MD_remember_19 (fun p12 => ?_)
          refine z_iload_n (pc := 22) d_MD_remember_22 rfl 1 rfl ?_
          refine z_aload_n (pc := 23) d_MD_remember_23 rfl 0 rfl ?_
          refine z_getR (pc := 24) fl_MD_19 d_MD_remember_24 (fun p13 => ?_)
          refine z_iload_n (pc := 27) d_MD_remember_27 rfl 1 rfl ?_
          refine z_sipush (pc := 28) d_MD_remember_28 ks_521 ?_
          refine z_iadd (pc := 31) d_MD_remember_31 ?_
          refine z_iaload (pc := 32) d_MD_remember_32 (fun v14 => ?_)
          refine z_iastore (pc := 33) d_MD_remember_33 (fun D15 => ?_)
          refine z_iincL (pc := 34) d_MD_remember_34 ki_1 1 rfl (by decide) (fun v16 => z_lvc (lv2 := [(1, .int v16), (0, .ref a)]) rfl ?_)
          refine z_goto (pc := 37) (tgt := 11) d_MD_remember_37 (by decide) ?_
          exact z_sub [1, 0] rfl (h11 v16 D15)
      · refine z_iconst (pc := 9) d_MD_remember_9 ki_0 ?_
        refine z_istore_n (pc := 10) d_MD_remember_10 rfl (by decide) (lv' := [(1, .int (0 : Int32)), (0, .ref a)]) rfl ?_
        exact z_sub [1, 0] rfl (h11 (0 : Int32) D)
    · exact z_sub [0] rfl (h50 D)
theorem d_MD_undo_0 : decode Y_MD_undo.2.1 0 = .ok (.aload_n 0, 1) := by decide +kernel
theorem d_MD_undo_1 : decode Y_MD_undo.2.1 1 = .ok (.aload_n 0, 1) := by decide +kernel
theorem d_MD_undo_2 : decode Y_MD_undo.2.1 2 = .ok (.getfield 192, 3) := by decide +kernel
theorem d_MD_undo_5 : decode Y_MD_undo.2.1 5 = .ok (.ifCond .ne (7), 3) := by decide +kernel
theorem d_MD_undo_8 : decode Y_MD_undo.2.1 8 = .ok (.iconst (1), 1) := by decide +kernel
theorem d_MD_undo_9 : decode Y_MD_undo.2.1 9 = .ok (.goto (4), 3) := by decide +kernel
theorem d_MD_undo_12 : decode Y_MD_undo.2.1 12 = .ok (.iconst (0), 1) := by decide +kernel
theorem d_MD_undo_13 : decode Y_MD_undo.2.1 13 = .ok (.invokevirtual 127, 3) := by decide +kernel
theorem d_MD_undo_16 : decode Y_MD_undo.2.1 16 = .ok (.ifCond .eq (5), 3) := by decide +kernel
theorem d_MD_undo_19 : decode Y_MD_undo.2.1 19 = .ok (.iconst (0), 1) := by decide +kernel
theorem d_MD_undo_20 : decode Y_MD_undo.2.1 20 = .ok (.ireturn, 1) := by decide +kernel
theorem d_MD_undo_21 : decode Y_MD_undo.2.1 21 = .ok (.aload_n 0, 1) := by decide +kernel
theorem d_MD_undo_22 : decode Y_MD_undo.2.1 22 = .ok (.dup, 1) := by decide +kernel
theorem d_MD_undo_23 : decode Y_MD_undo.2.1 23 = .ok (.getfield 192, 3) := by decide +kernel
theorem d_MD_undo_26 : decode Y_MD_undo.2.1 26 = .ok (.iconst (1), 1) := by decide +kernel
theorem d_MD_undo_27 : decode Y_MD_undo.2.1 27 = .ok (.isub, 1) := by decide +kernel
theorem d_MD_undo_28 : decode Y_MD_undo.2.1 28 = .ok (.putfield 192, 3) := by decide +kernel
theorem d_MD_undo_31 : decode Y_MD_undo.2.1 31 = .ok (.aload_n 0, 1) := by decide +kernel
theorem d_MD_undo_32 : decode Y_MD_undo.2.1 32 = .ok (.getfield 19, 3) := by decide +kernel
theorem d_MD_undo_35 : decode Y_MD_undo.2.1 35 = .ok (.sipush (521), 3) := by decide +kernel
theorem d_MD_undo_38 : decode Y_MD_undo.2.1 38 = .ok (.aload_n 0, 1) := by decide +kernel
theorem d_MD_undo_39 : decode Y_MD_undo.2.1 39 = .ok (.getfield 192, 3) := by decide +kernel
theorem d_MD_undo_42 : decode Y_MD_undo.2.1 42 = .ok (.imul, 1) := by decide +kernel
theorem d_MD_undo_43 : decode Y_MD_undo.2.1 43 = .ok (.aload_n 0, 1) := by decide +kernel
theorem d_MD_undo_44 : decode Y_MD_undo.2.1 44 = .ok (.getfield 13, 3) := by decide +kernel
theorem d_MD_undo_47 : decode Y_MD_undo.2.1 47 = .ok (.iconst (0), 1) := by decide +kernel
theorem d_MD_undo_48 : decode Y_MD_undo.2.1 48 = .ok (.invokestatic 188, 3) := by decide +kernel
theorem d_MD_undo_51 : decode Y_MD_undo.2.1 51 = .ok (.aload_n 0, 1) := by decide +kernel
theorem d_MD_undo_52 : decode Y_MD_undo.2.1 52 = .ok (.getfield 192, 3) := by decide +kernel
theorem d_MD_undo_55 : decode Y_MD_undo.2.1 55 = .ok (.ireturn, 1) := by decide +kernel
def f_MD_undo (w : zW) (D : zD) (a : Nat) : Option (Int32 × zD) := zjp (fun (s0 : Nat) (s1 : Int32) (D1 : zD) => zobj w 8 s0 (zci (f_MD_refused w D1 s0 s1) (fun v2 D3 => (if v2 = 0 then zfld w D3 8 6 a (fun v4 => zput w D3 8 6 a (v4 - (1 : Int32)) (fun D5 => zref w 8 5 a (fun p6 => zfld w D5 8 6 a (fun v7 => zref w 8 3 a (fun p8 => zcv (f_MD_copyState w D5 p6 ((521 : Int32) * v7) p8 (0 : Int32)) (fun D9 => zfld w D9 8 6 a (fun v10 => some (v10, D9)))))))) else some ((0 : Int32), D3))))) (fun j13 => zfld w D 8 6 a (fun v11 => (if v11 = 0 then j13 a (1 : Int32) D else j13 a (0 : Int32) D)))
set_option maxHeartbeats 4000000 in
set_option maxRecDepth 100000 in
theorem c_MD_undo (z : zT) (D : zD) (a : Nat) : zM Y_MD_undo 2 0 0 (zqI z) (f_MD_undo z.2 D a) [.ref a] z D := by
  refine zM_of (plainFor_of_name (by decide +kernel)) rfl (Nat.le_of_ble_eq_true rfl) (fun _ _ _ _ h => nomatch h.1) (fun K => ?_)
  unfold f_MD_undo
  refine z_jp (fun j13 : Nat → Int32 → zD → Option (Int32 × zD) => ∀ (s0 : Nat) (s1 : Int32) (D1 : zD), zGO K Y_MD_undo 2 0 0 (zqI z) (j13 s0 s1 D1) 0 0 z D1 13 [(0, .ref a)] [.int s1, .ref s0]) (fun s0 s1 D1 => ?_) (fun j13 h13 => ?_)
  · refine z_callVi (pc := 13) [.int s1] lkV_MD_127 rfl (c_MD_refused z D1 s0 s1) (by decide) rfl rfl (Nat.le_of_ble_eq_true rfl) d_MD_undo_13 (fun v2 D3 => ?_)
    refine z_if_eq (pc := 16) (tgt := 21) d_MD_undo_16 (by decide) ?_ ?_
    · refine z_aload_n (pc := 21) d_MD_undo_21 rfl 0 rfl ?_
      refine z_dup (pc := 22) d_MD_undo_22 rfl ?_
      refine z_getI (pc := 23) fl_MD_192 d_MD_undo_23 (fun v4 => ?_)
      refine z_iconst (pc := 26) d_MD_undo_26 ki_1 ?_
      refine z_isub (pc := 27) d_MD_undo_27 ?_
      refine z_putI (pc := 28) fl_MD_192 d_MD_undo_28 (fun D5 => ?_)
      refine z_aload_n (pc := 31) d_MD_undo_31 rfl 0 rfl ?_
      refine z_getR (pc := 32) fl_MD_19 d_MD_undo_32 (fun p6 => ?_)
      refine z_sipush (pc := 35) d_MD_undo_35 ks_521 ?_
      refine z_aload_n (pc := 38) d_MD_undo_38 rfl 0 rfl ?_
      refine z_getI (pc := 39) fl_MD_192 d_MD_undo_39 (fun v7 => ?_)
      refine z_imul (pc := 42) d_MD_undo_42 ?_
      refine z_aload_n (pc := 43) d_MD_undo_43 rfl 0 rfl ?_
      refine z_getR (pc := 44) fl_MD_13 d_MD_undo_44 (fun p8 => ?_)
      refine z_iconst (pc := 47) d_MD_undo_47 ki_0 ?_
      refine z_callSv (pc := 48) [.ref p6, .int ((521 : Int32) * v7), .ref p8, .int (0 : Int32)] lkS_MD_188 (c_MD_copyState z D5 p6 ((521 : Int32) * v7) p8 (0 : Int32)) (by decide) rfl rfl (Nat.le_of_ble_eq_true rfl) d_MD_undo_48 (fun D9 => ?_)
      refine z_aload_n (pc := 51) d_MD_undo_51 rfl 0 rfl ?_
      refine z_getI (pc := 52) fl_MD_192 d_MD_undo_52 (fun v10 => ?_)
      exact z_iret (pc := 55) d_MD_undo_55 rfl
    · refine z_iconst (pc := 19) d_MD_undo_19 ki_0 ?_
      exact z_iret (pc := 20) d_MD_undo_20 rfl
  · refine z_aload_n (pc := 0) d_MD_undo_0 rfl 0 rfl ?_
    refine z_aload_n (pc := 1) d_MD_undo_1 rfl 0 rfl ?_
    refine z_getI (pc := 2) fl_MD_192 d_MD_undo_2 (fun v11 => ?_)
    refine z_if_ne (pc := 5) (tgt := 12) d_MD_undo_5 (by decide) ?_ ?_
    · refine z_iconst (pc := 8) d_MD_undo_8 ki_1 ?_
      refine z_goto (pc := 9) (tgt := 13) d_MD_undo_9 (by decide) ?_
      exact z_sub [0] rfl (h13 a (1 : Int32) D)
    · refine z_iconst (pc := 12) d_MD_undo_12 ki_0 ?_
      exact z_sub [0] rfl (h13 a (0 : Int32) D)
theorem d_MD_save_0 : decode Y_MD_save.2.1 0 = .ok (.aload_n 0, 1) := by decide +kernel
theorem d_MD_save_1 : decode Y_MD_save.2.1 1 = .ok (.iload_n 1, 1) := by decide +kernel
theorem d_MD_save_2 : decode Y_MD_save.2.1 2 = .ok (.i2l, 1) := by decide +kernel
theorem d_MD_save_3 : decode Y_MD_save.2.1 3 = .ok (.lconst 0, 1) := by decide +kernel
theorem d_MD_save_4 : decode Y_MD_save.2.1 4 = .ok (.lconst 1, 1) := by decide +kernel
theorem d_MD_save_5 : decode Y_MD_save.2.1 5 = .ok (.invokestatic 37, 3) := by decide +kernel
theorem d_MD_save_8 : decode Y_MD_save.2.1 8 = .ok (.ifCond .eq (7), 3) := by decide +kernel
theorem d_MD_save_11 : decode Y_MD_save.2.1 11 = .ok (.iconst (0), 1) := by decide +kernel
theorem d_MD_save_12 : decode Y_MD_save.2.1 12 = .ok (.goto (4), 3) := by decide +kernel
theorem d_MD_save_15 : decode Y_MD_save.2.1 15 = .ok (.iconst (1), 1) := by decide +kernel
theorem d_MD_save_16 : decode Y_MD_save.2.1 16 = .ok (.invokevirtual 127, 3) := by decide +kernel
theorem d_MD_save_19 : decode Y_MD_save.2.1 19 = .ok (.ifCond .eq (5), 3) := by decide +kernel
theorem d_MD_save_22 : decode Y_MD_save.2.1 22 = .ok (.iconst (0), 1) := by decide +kernel
theorem d_MD_save_23 : decode Y_MD_save.2.1 23 = .ok (.ireturn, 1) := by decide +kernel
theorem d_MD_save_24 : decode Y_MD_save.2.1 24 = .ok (.aload_n 0, 1) := by decide +kernel
theorem d_MD_save_25 : decode Y_MD_save.2.1 25 = .ok (.getfield 13, 3) := by decide +kernel
theorem d_MD_save_28 : decode Y_MD_save.2.1 28 = .ok (.iconst (0), 1) := by decide +kernel
theorem d_MD_save_29 : decode Y_MD_save.2.1 29 = .ok (.aload_n 0, 1) := by decide +kernel
theorem d_MD_save_30 : decode Y_MD_save.2.1 30 = .ok (.getfield 22, 3) := by decide +kernel
theorem d_MD_save_33 : decode Y_MD_save.2.1 33 = .ok (.sipush (521), 3) := by decide +kernel
theorem d_MD_save_36 : decode Y_MD_save.2.1 36 = .ok (.iload_n 1, 1) := by decide +kernel
theorem d_MD_save_37 : decode Y_MD_save.2.1 37 = .ok (.imul, 1) := by decide +kernel
theorem d_MD_save_38 : decode Y_MD_save.2.1 38 = .ok (.invokestatic 188, 3) := by decide +kernel
theorem d_MD_save_41 : decode Y_MD_save.2.1 41 = .ok (.aload_n 0, 1) := by decide +kernel
theorem d_MD_save_42 : decode Y_MD_save.2.1 42 = .ok (.getfield 25, 3) := by decide +kernel
theorem d_MD_save_45 : decode Y_MD_save.2.1 45 = .ok (.iload_n 1, 1) := by decide +kernel
theorem d_MD_save_46 : decode Y_MD_save.2.1 46 = .ok (.iconst (1), 1) := by decide +kernel
theorem d_MD_save_47 : decode Y_MD_save.2.1 47 = .ok (.bastore, 1) := by decide +kernel
theorem d_MD_save_48 : decode Y_MD_save.2.1 48 = .ok (.aload_n 0, 1) := by decide +kernel
theorem d_MD_save_49 : decode Y_MD_save.2.1 49 = .ok (.getfield 13, 3) := by decide +kernel
theorem d_MD_save_52 : decode Y_MD_save.2.1 52 = .ok (.iconst (3), 1) := by decide +kernel
theorem d_MD_save_53 : decode Y_MD_save.2.1 53 = .ok (.iaload, 1) := by decide +kernel
theorem d_MD_save_54 : decode Y_MD_save.2.1 54 = .ok (.ireturn, 1) := by decide +kernel
def f_MD_save (w : zW) (D : zD) (a : Nat) (x1 : Int32) : Option (Int32 × zD) := zjp (fun (s0 : Nat) (s1 : Int32) (D1 : zD) => zobj w 8 s0 (zci (f_MD_refused w D1 s0 s1) (fun v2 D3 => (if v2 = 0 then zref w 8 3 a (fun p4 => zref w 8 7 a (fun p5 => zcv (f_MD_copyState w D3 p4 (0 : Int32) p5 ((521 : Int32) * x1)) (fun D6 => zref w 8 8 a (fun p7 => zast w D6 2 p7 x1 (vp_nar .boolean (1 : Int32)) (fun D8 => zref w 8 3 a (fun p9 => zald w D8 0 p9 (3 : Int32) (fun v10 => some (v10, D8)))))))) else some ((0 : Int32), D3))))) (fun j16 => zci (f_MD_in w D x1.toInt64 (0 : Int64) (1 : Int64)) (fun v11 D12 => (if v11 = 0 then j16 a (1 : Int32) D12 else j16 a (0 : Int32) D12)))
set_option maxHeartbeats 4000000 in
set_option maxRecDepth 100000 in
theorem c_MD_save (z : zT) (D : zD) (a : Nat) (x1 : Int32) : zM Y_MD_save 2 0 0 (zqI z) (f_MD_save z.2 D a x1) [.ref a, .int x1] z D := by
  refine zM_of (plainFor_of_name (by decide +kernel)) rfl (Nat.le_of_ble_eq_true rfl) (fun _ _ _ _ h => nomatch h.1) (fun K => ?_)
  unfold f_MD_save
  refine z_jp (fun j16 : Nat → Int32 → zD → Option (Int32 × zD) => ∀ (s0 : Nat) (s1 : Int32) (D1 : zD), zGO K Y_MD_save 2 0 0 (zqI z) (j16 s0 s1 D1) 0 0 z D1 16 [(0, .ref a), (1, .int x1)] [.int s1, .ref s0]) (fun s0 s1 D1 => ?_) (fun j16 h16 => ?_)
  · refine z_callVi (pc := 16) [.int s1] lkV_MD_127 rfl (c_MD_refused z D1 s0 s1) (by decide) rfl rfl (Nat.le_of_ble_eq_true rfl) d_MD_save_16 (fun v2 D3 => ?_)
    refine z_if_eq (pc := 19) (tgt := 24) d_MD_save_19 (by decide) ?_ ?_
    · refine z_aload_n (pc := 24) d_MD_save_24 rfl 0 rfl ?_
      refine z_getR (pc := 25) fl_MD_13 d_MD_save_25 (fun p4 => ?_)
      refine z_iconst (pc := 28) d_MD_save_28 ki_0 ?_
      refine z_aload_n (pc := 29) d_MD_save_29 rfl 0 rfl ?_
      refine z_getR (pc := 30) fl_MD_22 d_MD_save_30 (fun p5 => ?_)
      refine z_sipush (pc := 33) d_MD_save_33 ks_521 ?_
      refine z_iload_n (pc := 36) d_MD_save_36 rfl 1 rfl ?_
      refine z_imul (pc := 37) d_MD_save_37 ?_
      refine z_callSv (pc := 38) [.ref p4, .int (0 : Int32), .ref p5, .int ((521 : Int32) * x1)] lkS_MD_188 (c_MD_copyState z D3 p4 (0 : Int32) p5 ((521 : Int32) * x1)) (by decide) rfl rfl (Nat.le_of_ble_eq_true rfl) d_MD_save_38 (fun D6 => ?_)
      refine z_aload_n (pc := 41) d_MD_save_41 rfl 0 rfl ?_
      refine z_getR (pc := 42) fl_MD_25 d_MD_save_42 (fun p7 => ?_)
      refine z_iload_n (pc := 45) d_MD_save_45 rfl 1 rfl ?_
      refine z_iconst (pc := 46) d_MD_save_46 ki_1 ?_
      refine z_bastore (pc := 47) d_MD_save_47 (fun D8 => ?_)
      refine z_aload_n (pc := 48) d_MD_save_48 rfl 0 rfl ?_
      refine z_getR (pc := 49) fl_MD_13 d_MD_save_49 (fun p9 => ?_)
      refine z_iconst (pc := 52) d_MD_save_52 ki_3 ?_
      refine z_iaload (pc := 53) d_MD_save_53 (fun v10 => ?_)
      exact z_iret (pc := 54) d_MD_save_54 rfl
    · refine z_iconst (pc := 22) d_MD_save_22 ki_0 ?_
      exact z_iret (pc := 23) d_MD_save_23 rfl
  · refine z_aload_n (pc := 0) d_MD_save_0 rfl 0 rfl ?_
    refine z_iload_n (pc := 1) d_MD_save_1 rfl 1 rfl ?_
    refine z_i2l (pc := 2) d_MD_save_2 ?_
    refine z_lconst (pc := 3) d_MD_save_3 (v := 0) rfl ?_
    refine z_lconst (pc := 4) d_MD_save_4 (v := 1) rfl ?_
    refine z_callSi (pc := 5) [.long x1.toInt64, .long (0 : Int64), .long (1 : Int64)] lkS_MD_37 (c_MD_in z D x1.toInt64 (0 : Int64) (1 : Int64)) (by decide) rfl rfl (Nat.le_of_ble_eq_true rfl) d_MD_save_5 (fun v11 D12 => ?_)
    refine z_if_eq (pc := 8) (tgt := 15) d_MD_save_8 (by decide) ?_ ?_
    · refine z_iconst (pc := 15) d_MD_save_15 ki_1 ?_
      exact z_sub [0, 1] rfl (h16 a (1 : Int32) D12)
    · refine z_iconst (pc := 11) d_MD_save_11 ki_0 ?_
      refine z_goto (pc := 12) (tgt := 16) d_MD_save_12 (by decide) ?_
      exact z_sub [0, 1] rfl (h16 a (0 : Int32) D12)
theorem d_MD_restore_0 : decode Y_MD_restore.2.1 0 = .ok (.aload_n 0, 1) := by decide +kernel
theorem d_MD_restore_1 : decode Y_MD_restore.2.1 1 = .ok (.iload_n 1, 1) := by decide +kernel
theorem d_MD_restore_2 : decode Y_MD_restore.2.1 2 = .ok (.i2l, 1) := by decide +kernel
theorem d_MD_restore_3 : decode Y_MD_restore.2.1 3 = .ok (.lconst 0, 1) := by decide +kernel
theorem d_MD_restore_4 : decode Y_MD_restore.2.1 4 = .ok (.lconst 1, 1) := by decide +kernel
theorem d_MD_restore_5 : decode Y_MD_restore.2.1 5 = .ok (.invokestatic 37, 3) := by decide +kernel
theorem d_MD_restore_8 : decode Y_MD_restore.2.1 8 = .ok (.ifCond .ne (7), 3) := by decide +kernel
theorem d_MD_restore_11 : decode Y_MD_restore.2.1 11 = .ok (.iconst (1), 1) := by decide +kernel
theorem d_MD_restore_12 : decode Y_MD_restore.2.1 12 = .ok (.goto (17), 3) := by decide +kernel
theorem d_MD_restore_15 : decode Y_MD_restore.2.1 15 = .ok (.aload_n 0, 1) := by decide +kernel
theorem d_MD_restore_16 : decode Y_MD_restore.2.1 16 = .ok (.getfield 25, 3) := by decide +kernel
theorem d_MD_restore_19 : decode Y_MD_restore.2.1 19 = .ok (.iload_n 1, 1) := by decide +kernel
theorem d_MD_restore_20 : decode Y_MD_restore.2.1 20 = .ok (.baload, 1) := by decide +kernel
theorem d_MD_restore_21 : decode Y_MD_restore.2.1 21 = .ok (.ifCond .ne (7), 3) := by decide +kernel
theorem d_MD_restore_24 : decode Y_MD_restore.2.1 24 = .ok (.iconst (2), 1) := by decide +kernel
theorem d_MD_restore_25 : decode Y_MD_restore.2.1 25 = .ok (.goto (4), 3) := by decide +kernel
theorem d_MD_restore_28 : decode Y_MD_restore.2.1 28 = .ok (.iconst (0), 1) := by decide +kernel
theorem d_MD_restore_29 : decode Y_MD_restore.2.1 29 = .ok (.invokevirtual 127, 3) := by decide +kernel
theorem d_MD_restore_32 : decode Y_MD_restore.2.1 32 = .ok (.ifCond .eq (5), 3) := by decide +kernel
theorem d_MD_restore_35 : decode Y_MD_restore.2.1 35 = .ok (.iconst (0), 1) := by decide +kernel
theorem d_MD_restore_36 : decode Y_MD_restore.2.1 36 = .ok (.ireturn, 1) := by decide +kernel
theorem d_MD_restore_37 : decode Y_MD_restore.2.1 37 = .ok (.aload_n 0, 1) := by decide +kernel
theorem d_MD_restore_38 : decode Y_MD_restore.2.1 38 = .ok (.getfield 22, 3) := by decide +kernel
theorem d_MD_restore_41 : decode Y_MD_restore.2.1 41 = .ok (.sipush (521), 3) := by decide +kernel
theorem d_MD_restore_44 : decode Y_MD_restore.2.1 44 = .ok (.iload_n 1, 1) := by decide +kernel
theorem d_MD_restore_45 : decode Y_MD_restore.2.1 45 = .ok (.imul, 1) := by decide +kernel
theorem d_MD_restore_46 : decode Y_MD_restore.2.1 46 = .ok (.aload_n 0, 1) := by decide +kernel
theorem d_MD_restore_47 : decode Y_MD_restore.2.1 47 = .ok (.getfield 13, 3) := by decide +kernel
theorem d_MD_restore_50 : decode Y_MD_restore.2.1 50 = .ok (.iconst (0), 1) := by decide +kernel
theorem d_MD_restore_51 : decode Y_MD_restore.2.1 51 = .ok (.invokestatic 188, 3) := by decide +kernel
theorem d_MD_restore_54 : decode Y_MD_restore.2.1 54 = .ok (.aload_n 0, 1) := by decide +kernel
theorem d_MD_restore_55 : decode Y_MD_restore.2.1 55 = .ok (.iconst (0), 1) := by decide +kernel
theorem d_MD_restore_56 : decode Y_MD_restore.2.1 56 = .ok (.putfield 192, 3) := by decide +kernel
theorem d_MD_restore_59 : decode Y_MD_restore.2.1 59 = .ok (.aload_n 0, 1) := by decide +kernel
theorem d_MD_restore_60 : decode Y_MD_restore.2.1 60 = .ok (.getfield 13, 3) := by decide +kernel
theorem d_MD_restore_63 : decode Y_MD_restore.2.1 63 = .ok (.iconst (3), 1) := by decide +kernel
theorem d_MD_restore_64 : decode Y_MD_restore.2.1 64 = .ok (.iaload, 1) := by decide +kernel
theorem d_MD_restore_65 : decode Y_MD_restore.2.1 65 = .ok (.ireturn, 1) := by decide +kernel
def f_MD_restore (w : zW) (D : zD) (a : Nat) (x1 : Int32) : Option (Int32 × zD) := zjp (fun (s0 : Nat) (s1 : Int32) (D1 : zD) => zobj w 8 s0 (zci (f_MD_refused w D1 s0 s1) (fun v2 D3 => (if v2 = 0 then zref w 8 7 a (fun p4 => zref w 8 3 a (fun p5 => zcv (f_MD_copyState w D3 p4 ((521 : Int32) * x1) p5 (0 : Int32)) (fun D6 => zput w D6 8 6 a (0 : Int32) (fun D7 => zref w 8 3 a (fun p8 => zald w D7 0 p8 (3 : Int32) (fun v9 => some (v9, D7))))))) else some ((0 : Int32), D3))))) (fun j29 => zci (f_MD_in w D x1.toInt64 (0 : Int64) (1 : Int64)) (fun v10 D11 => (if v10 = 0 then j29 a (1 : Int32) D11 else zref w 8 8 a (fun p12 => zald w D11 2 p12 x1 (fun v13 => (if v13 = 0 then j29 a (2 : Int32) D11 else j29 a (0 : Int32) D11))))))
set_option maxHeartbeats 4000000 in
set_option maxRecDepth 100000 in
theorem c_MD_restore (z : zT) (D : zD) (a : Nat) (x1 : Int32) : zM Y_MD_restore 2 0 0 (zqI z) (f_MD_restore z.2 D a x1) [.ref a, .int x1] z D := by
  refine zM_of (plainFor_of_name (by decide +kernel)) rfl (Nat.le_of_ble_eq_true rfl) (fun _ _ _ _ h => nomatch h.1) (fun K => ?_)
  unfold f_MD_restore
  refine z_jp (fun j29 : Nat → Int32 → zD → Option (Int32 × zD) => ∀ (s0 : Nat) (s1 : Int32) (D1 : zD), zGO K Y_MD_restore 2 0 0 (zqI z) (j29 s0 s1 D1) 0 0 z D1 29 [(0, .ref a), (1, .int x1)] [.int s1, .ref s0]) (fun s0 s1 D1 => ?_) (fun j29 h29 => ?_)
  · refine z_callVi (pc := 29) [.int s1] lkV_MD_127 rfl (c_MD_refused z D1 s0 s1) (by decide) rfl rfl (Nat.le_of_ble_eq_true rfl) d_MD_restore_29 (fun v2 D3 => ?_)
    refine z_if_eq (pc := 32) (tgt := 37) d_MD_restore_32 (by decide) ?_ ?_
    · refine z_aload_n (pc := 37) d_MD_restore_37 rfl 0 rfl ?_
      refine z_getR (pc := 38) fl_MD_22 d_MD_restore_38 (fun p4 => ?_)
      refine z_sipush (pc := 41) d_MD_restore_41 ks_521 ?_
      refine z_iload_n (pc := 44) d_MD_restore_44 rfl 1 rfl ?_
      refine z_imul (pc := 45) d_MD_restore_45 ?_
      refine z_aload_n (pc := 46) d_MD_restore_46 rfl 0 rfl ?_
      refine z_getR (pc := 47) fl_MD_13 d_MD_restore_47 (fun p5 => ?_)
      refine z_iconst (pc := 50) d_MD_restore_50 ki_0 ?_
      refine z_callSv (pc := 51) [.ref p4, .int ((521 : Int32) * x1), .ref p5, .int (0 : Int32)] lkS_MD_188 (c_MD_copyState z D3 p4 ((521 : Int32) * x1) p5 (0 : Int32)) (by decide) rfl rfl (Nat.le_of_ble_eq_true rfl) d_MD_restore_51 (fun D6 => ?_)
      refine z_aload_n (pc := 54) d_MD_restore_54 rfl 0 rfl ?_
      refine z_iconst (pc := 55) d_MD_restore_55 ki_0 ?_
      refine z_putI (pc := 56) fl_MD_192 d_MD_restore_56 (fun D7 => ?_)
      refine z_aload_n (pc := 59) d_MD_restore_59 rfl 0 rfl ?_
      refine z_getR (pc := 60) fl_MD_13 d_MD_restore_60 (fun p8 => ?_)
      refine z_iconst (pc := 63) d_MD_restore_63 ki_3 ?_
      refine z_iaload (pc := 64) d_MD_restore_64 (fun v9 => ?_)
      exact z_iret (pc := 65) d_MD_restore_65 rfl
    · refine z_iconst (pc := 35) d_MD_restore_35 ki_0 ?_
      exact z_iret (pc := 36) d_MD_restore_36 rfl
  · refine z_aload_n (pc := 0) d_MD_restore_0 rfl 0 rfl ?_
    refine z_iload_n (pc := 1) d_MD_restore_1 rfl 1 rfl ?_
    refine z_i2l (pc := 2) d_MD_restore_2 ?_
    refine z_lconst (pc := 3) d_MD_restore_3 (v := 0) rfl ?_
    refine z_lconst (pc := 4) d_MD_restore_4 (v := 1) rfl ?_
    refine z_callSi (pc := 5) [.long x1.toInt64, .long (0 : Int64), .long (1 : Int64)] lkS_MD_37 (c_MD_in z D x1.toInt64 (0 : Int64) (1 : Int64)) (by decide) rfl rfl (Nat.le_of_ble_eq_true rfl) d_MD_restore_5 (fun v10 D11 => ?_)
    refine z_if_ne (pc := 8) (tgt := 15) d_MD_restore_8 (by decide) ?_ ?_
    · refine z_iconst (pc := 11) d_MD_restore_11 ki_1 ?_
      refine z_goto (pc := 12) (tgt := 29) d_MD_restore_12 (by decide) ?_
      exact z_sub [0, 1] rfl (h29 a (1 : Int32) D11)
    · refine z_aload_n (pc := 15) d_MD_restore_15 rfl 0 rfl ?_
      refine z_getR (pc := 16) fl_MD_25 d_MD_restore_16 (fun p12 => ?_)
      refine z_iload_n (pc := 19) d_MD_restore_19 rfl 1 rfl ?_
      refine z_baload (pc := 20) d_MD_restore_20 (fun v13 => ?_)
      refine z_if_ne (pc := 21) (tgt := 28) d_MD_restore_21 (by decide) ?_ ?_
      · refine z_iconst (pc := 24) d_MD_restore_24 ki_2 ?_
        refine z_goto (pc := 25) (tgt := 29) d_MD_restore_25 (by decide) ?_
        exact z_sub [0, 1] rfl (h29 a (2 : Int32) D11)
      · refine z_iconst (pc := 28) d_MD_restore_28 ki_0 ?_
        exact z_sub [0, 1] rfl (h29 a (0 : Int32) D11)
