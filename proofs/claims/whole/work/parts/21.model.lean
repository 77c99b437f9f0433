def Y_MD_onRing : zY := (⟨"SirenFairModel", "onRing", "([III)I"⟩, prog_10_method_15_code, 4, some .int, [])
theorem w_c_MD_ring : Cond.code Y_MD_ring.1 Y_MD_ring.2.1 Y_MD_ring.2.2.1 Y_MD_ring.2.2.2.1 ∈ zWd := zin 1074 (by decide +kernel) rfl
theorem lk_MD_ring : zlk Y_MD_ring 2 := ⟨w_c_MD_ring, w_ini_MD, by decide +kernel, by decide +kernel, by decide⟩
theorem w_ml_MD_49 : Cond.methodLink "SirenFairModel" 49 Y_MD_ring.1 ∈ zWd := zin 1072 (by decide +kernel) rfl
theorem w_st_MD_ring : Cond.static Y_MD_ring.1 ∈ zWd := zin 1073 (by decide +kernel) rfl
theorem lkS_MD_49 : zlkS "SirenFairModel" 49 Y_MD_ring 2 := ⟨lk_MD_ring, w_ml_MD_49, w_st_MD_ring⟩
def Y_MD_gives : zY := (⟨"SirenFairModel", "gives", "([II)V"⟩, prog_10_method_20_code, 7, none, [])
theorem w_c_MD_give : Cond.code Y_MD_give.1 Y_MD_give.2.1 Y_MD_give.2.2.1 Y_MD_give.2.2.2.1 ∈ zWd := zin 1092 (by decide +kernel) rfl
theorem lk_MD_give : zlk Y_MD_give 5 := ⟨w_c_MD_give, w_ini_MD, by decide +kernel, by decide +kernel, by decide⟩
theorem w_ml_MD_63 : Cond.methodLink "SirenFairModel" 63 Y_MD_give.1 ∈ zWd := zin 1090 (by decide +kernel) rfl
theorem w_st_MD_give : Cond.static Y_MD_give.1 ∈ zWd := zin 1091 (by decide +kernel) rfl
theorem lkS_MD_63 : zlkS "SirenFairModel" 63 Y_MD_give 5 := ⟨lk_MD_give, w_ml_MD_63, w_st_MD_give⟩
theorem w_c_MD_xOf : Cond.code Y_MD_xOf.1 Y_MD_xOf.2.1 Y_MD_xOf.2.2.1 Y_MD_xOf.2.2.2.1 ∈ zWd := zin 1086 (by decide +kernel) rfl
theorem lk_MD_xOf : zlk Y_MD_xOf 2 := ⟨w_c_MD_xOf, w_ini_MD, by decide +kernel, by decide +kernel, by decide⟩
theorem w_ml_MD_57 : Cond.methodLink "SirenFairModel" 57 Y_MD_xOf.1 ∈ zWd := zin 1084 (by decide +kernel) rfl
theorem w_st_MD_xOf : Cond.static Y_MD_xOf.1 ∈ zWd := zin 1085 (by decide +kernel) rfl
theorem lkS_MD_57 : zlkS "SirenFairModel" 57 Y_MD_xOf 2 := ⟨lk_MD_xOf, w_ml_MD_57, w_st_MD_xOf⟩
theorem w_c_MD_yOf : Cond.code Y_MD_yOf.1 Y_MD_yOf.2.1 Y_MD_yOf.2.2.1 Y_MD_yOf.2.2.2.1 ∈ zWd := zin 1089 (by decide +kernel) rfl
theorem lk_MD_yOf : zlk Y_MD_yOf 2 := ⟨w_c_MD_yOf, w_ini_MD, by decide +kernel, by decide +kernel, by decide⟩
theorem w_ml_MD_60 : Cond.methodLink "SirenFairModel" 60 Y_MD_yOf.1 ∈ zWd := zin 1087 (by decide +kernel) rfl
theorem w_st_MD_yOf : Cond.static Y_MD_yOf.1 ∈ zWd := zin 1088 (by decide +kernel) rfl
theorem lkS_MD_60 : zlkS "SirenFairModel" 60 Y_MD_yOf 2 := ⟨lk_MD_yOf, w_ml_MD_60, w_st_MD_yOf⟩
def Y_MD_isHeardNow : zY := (⟨"SirenFairModel", "isHeardNow", "([III)Z"⟩, prog_10_method_23_code, 4, some .boolean, [])
theorem w_c_MD_isReached : Cond.code Y_MD_isReached.1 Y_MD_isReached.2.1 Y_MD_isReached.2.2.1 Y_MD_isReached.2.2.2.1 ∈ zWd := zin 1104 (by decide +kernel) rfl
theorem lk_MD_isReached : zlk Y_MD_isReached 3 := ⟨w_c_MD_isReached, w_ini_MD, by decide +kernel, by decide +kernel, by decide⟩
theorem w_ml_MD_77 : Cond.methodLink "SirenFairModel" 77 Y_MD_isReached.1 ∈ zWd := zin 1102 (by decide +kernel) rfl
theorem w_st_MD_isReached : Cond.static Y_MD_isReached.1 ∈ zWd := zin 1103 (by decide +kernel) rfl
theorem lkS_MD_77 : zlkS "SirenFairModel" 77 Y_MD_isReached 3 := ⟨lk_MD_isReached, w_ml_MD_77, w_st_MD_isReached⟩
theorem w_c_MD_isOnSide : Cond.code Y_MD_isOnSide.1 Y_MD_isOnSide.2.1 Y_MD_isOnSide.2.2.1 Y_MD_isOnSide.2.2.2.1 ∈ zWd := zin 1110 (by decide +kernel) rfl
theorem lk_MD_isOnSide : zlk Y_MD_isOnSide 3 := ⟨w_c_MD_isOnSide, w_ini_MD, by decide +kernel, by decide +kernel, by decide⟩
theorem w_ml_MD_81 : Cond.methodLink "SirenFairModel" 81 Y_MD_isOnSide.1 ∈ zWd := zin 1108 (by decide +kernel) rfl
theorem w_st_MD_isOnSide : Cond.static Y_MD_isOnSide.1 ∈ zWd := zin 1109 (by decide +kernel) rfl
theorem lkS_MD_81 : zlkS "SirenFairModel" 81 Y_MD_isOnSide 3 := ⟨lk_MD_isOnSide, w_ml_MD_81, w_st_MD_isOnSide⟩
def Y_MD_readSiren : zY := (⟨"SirenFairModel", "readSiren", "([I)Z"⟩, prog_10_method_44_code, 7, some .boolean, [])
theorem w_c_MD_figures : Cond.code Y_MD_figures.1 Y_MD_figures.2.1 Y_MD_figures.2.2.1 Y_MD_figures.2.2.2.1 ∈ zWd := zin 1028 (by decide +kernel) rfl
theorem lk_MD_figures : zlk Y_MD_figures 4 := ⟨w_c_MD_figures, w_ini_MD, by decide +kernel, by decide +kernel, by decide⟩
theorem w_ml_MD_137 : Cond.methodLink "SirenFairModel" 137 Y_MD_figures.1 ∈ zWd := zin 1025 (by decide +kernel) rfl
theorem w_im_MD_figures : Cond.instanceMethod Y_MD_figures.1 ∈ zWd := zin 1027 (by decide +kernel) rfl
theorem w_sel_MD_figures : Cond.selects "SirenFairModel" Y_MD_figures.1 Y_MD_figures.1 ∈ zWd := zin 19 (by decide +kernel) rfl
theorem lkV_MD_137 : zlkV "SirenFairModel" 137 Y_MD_figures 4 := ⟨lk_MD_figures, w_ml_MD_137, w_im_MD_figures, w_sel_MD_figures⟩
theorem w_c_MD_done : Cond.code Y_MD_done.1 Y_MD_done.2.1 Y_MD_done.2.2.1 Y_MD_done.2.2.2.1 ∈ zWd := zin 1036 (by decide +kernel) rfl
theorem lk_MD_done : zlk Y_MD_done 1 := ⟨w_c_MD_done, w_ini_MD, by decide +kernel, by decide +kernel, by decide⟩
theorem w_ml_MD_145 : Cond.methodLink "SirenFairModel" 145 Y_MD_done.1 ∈ zWd := zin 1033 (by decide +kernel) rfl
theorem w_im_MD_done : Cond.instanceMethod Y_MD_done.1 ∈ zWd := zin 1035 (by decide +kernel) rfl
theorem w_sel_MD_done : Cond.selects "SirenFairModel" Y_MD_done.1 Y_MD_done.1 ∈ zWd := zin 20 (by decide +kernel) rfl
theorem lkV_MD_145 : zlkV "SirenFairModel" 145 Y_MD_done 1 := ⟨lk_MD_done, w_ml_MD_145, w_im_MD_done, w_sel_MD_done⟩
theorem w_c_MD_sirenOn : Cond.code Y_MD_sirenOn.1 Y_MD_sirenOn.2.1 Y_MD_sirenOn.2.2.1 Y_MD_sirenOn.2.2.2.1 ∈ zWd := zin 1032 (by decide +kernel) rfl
theorem lk_MD_sirenOn : zlk Y_MD_sirenOn 6 := ⟨w_c_MD_sirenOn, w_ini_MD, by decide +kernel, by decide +kernel, by decide⟩
theorem w_ml_MD_141 : Cond.methodLink "SirenFairModel" 141 Y_MD_sirenOn.1 ∈ zWd := zin 1030 (by decide +kernel) rfl
theorem w_st_MD_sirenOn : Cond.static Y_MD_sirenOn.1 ∈ zWd := zin 1031 (by decide +kernel) rfl
theorem lkS_MD_141 : zlkS "SirenFairModel" 141 Y_MD_sirenOn 6 := ⟨lk_MD_sirenOn, w_ml_MD_141, w_st_MD_sirenOn⟩
def Y_MD_readHearer : zY := (⟨"SirenFairModel", "readHearer", "([I)Z"⟩, prog_10_method_45_code, 6, some .boolean, [])
theorem w_c_MD_hearerOn : Cond.code Y_MD_hearerOn.1 Y_MD_hearerOn.2.1 Y_MD_hearerOn.2.2.1 Y_MD_hearerOn.2.2.2.1 ∈ zWd := zin 1043 (by decide +kernel) rfl
theorem lk_MD_hearerOn : zlk Y_MD_hearerOn 5 := ⟨w_c_MD_hearerOn, w_ini_MD, by decide +kernel, by decide +kernel, by decide⟩
theorem w_ml_MD_149 : Cond.methodLink "SirenFairModel" 149 Y_MD_hearerOn.1 ∈ zWd := zin 1041 (by decide +kernel) rfl
theorem w_st_MD_hearerOn : Cond.static Y_MD_hearerOn.1 ∈ zWd := zin 1042 (by decide +kernel) rfl
theorem lkS_MD_149 : zlkS "SirenFairModel" 149 Y_MD_hearerOn 5 := ⟨lk_MD_hearerOn, w_ml_MD_149, w_st_MD_hearerOn⟩
def Y_MD_sirenOf : zY := (⟨"SirenFairModel", "sirenOf", "(II)I"⟩, prog_10_method_51_code, 3, some .int, [])
theorem w_c_MD_isSiren : Cond.code Y_MD_isSiren.1 Y_MD_isSiren.2.1 Y_MD_isSiren.2.2.1 Y_MD_isSiren.2.2.2.1 ∈ zWd := zin 1053 (by decide +kernel) rfl
theorem lk_MD_isSiren : zlk Y_MD_isSiren 2 := ⟨w_c_MD_isSiren, w_ini_MD, by decide +kernel, by decide +kernel, by decide⟩
theorem w_ml_MD_168 : Cond.methodLink "SirenFairModel" 168 Y_MD_isSiren.1 ∈ zWd := zin 1051 (by decide +kernel) rfl
theorem w_st_MD_isSiren : Cond.static Y_MD_isSiren.1 ∈ zWd := zin 1052 (by decide +kernel) rfl
theorem lkS_MD_168 : zlkS "SirenFairModel" 168 Y_MD_isSiren 2 := ⟨lk_MD_isSiren, w_ml_MD_168, w_st_MD_isSiren⟩
def Y_MD_nearest : zY := (⟨"SirenFairModel", "nearest", "([II)I"⟩, prog_10_method_52_code, 7, some .int, [])
def Y_MD_heard : zY := (⟨"SirenFairModel", "heard", "(III)I"⟩, prog_10_method_57_code, 4, some .int, [])
theorem w_c_MD_sounds : Cond.code Y_MD_sounds.1 Y_MD_sounds.2.1 Y_MD_sounds.2.2.1 Y_MD_sounds.2.2.2.1 ∈ zWd := zin 1160 (by decide +kernel) rfl
theorem lk_MD_sounds : zlk Y_MD_sounds 3 := ⟨w_c_MD_sounds, w_ini_MD, by decide +kernel, by decide +kernel, by decide⟩
theorem w_ml_MD_203 : Cond.methodLink "SirenFairModel" 203 Y_MD_sounds.1 ∈ zWd := zin 1158 (by decide +kernel) rfl
theorem w_st_MD_sounds : Cond.static Y_MD_sounds.1 ∈ zWd := zin 1159 (by decide +kernel) rfl
theorem lkS_MD_203 : zlkS "SirenFairModel" 203 Y_MD_sounds 3 := ⟨lk_MD_sounds, w_ml_MD_203, w_st_MD_sounds⟩
theorem w_c_MD_isHearer : Cond.code Y_MD_isHearer.1 Y_MD_isHearer.2.1 Y_MD_isHearer.2.2.1 Y_MD_isHearer.2.2.2.1 ∈ zWd := zin 1141 (by decide +kernel) rfl
theorem lk_MD_isHearer : zlk Y_MD_isHearer 2 := ⟨w_c_MD_isHearer, w_ini_MD, by decide +kernel, by decide +kernel, by decide⟩
theorem w_ml_MD_195 : Cond.methodLink "SirenFairModel" 195 Y_MD_isHearer.1 ∈ zWd := zin 1139 (by decide +kernel) rfl
theorem w_st_MD_isHearer : Cond.static Y_MD_isHearer.1 ∈ zWd := zin 1140 (by decide +kernel) rfl
theorem lkS_MD_195 : zlkS "SirenFairModel" 195 Y_MD_isHearer 2 := ⟨lk_MD_isHearer, w_ml_MD_195, w_st_MD_isHearer⟩
def Y_MD_siren : zY := (⟨"SirenFairModel", "siren", "(IIIII)I"⟩, prog_10_method_59_code, 7, some .int, [])
theorem w_c_MD_remember : Cond.code Y_MD_remember.1 Y_MD_remember.2.1 Y_MD_remember.2.2.1 Y_MD_remember.2.2.2.1 ∈ zWd := zin 1176 (by decide +kernel) rfl
theorem lk_MD_remember : zlk Y_MD_remember 0 := ⟨w_c_MD_remember, w_ini_MD, by decide +kernel, by decide +kernel, by decide⟩
theorem w_ml_MD_216 : Cond.methodLink "SirenFairModel" 216 Y_MD_remember.1 ∈ zWd := zin 1173 (by decide +kernel) rfl
theorem w_im_MD_remember : Cond.instanceMethod Y_MD_remember.1 ∈ zWd := zin 1175 (by decide +kernel) rfl
theorem w_sel_MD_remember : Cond.selects "SirenFairModel" Y_MD_remember.1 Y_MD_remember.1 ∈ zWd := zin 23 (by decide +kernel) rfl
theorem lkV_MD_216 : zlkV "SirenFairModel" 216 Y_MD_remember 0 := ⟨lk_MD_remember, w_ml_MD_216, w_im_MD_remember, w_sel_MD_remember⟩
theorem w_c_MD_isCentre : Cond.code Y_MD_isCentre.1 Y_MD_isCentre.2.1 Y_MD_isCentre.2.2.1 Y_MD_isCentre.2.2.2.1 ∈ zWd := zin 1167 (by decide +kernel) rfl
theorem lk_MD_isCentre : zlk Y_MD_isCentre 2 := ⟨w_c_MD_isCentre, w_ini_MD, by decide +kernel, by decide +kernel, by decide⟩
theorem w_ml_MD_206 : Cond.methodLink "SirenFairModel" 206 Y_MD_isCentre.1 ∈ zWd := zin 1165 (by decide +kernel) rfl
theorem w_st_MD_isCentre : Cond.static Y_MD_isCentre.1 ∈ zWd := zin 1166 (by decide +kernel) rfl
theorem lkS_MD_206 : zlkS "SirenFairModel" 206 Y_MD_isCentre 2 := ⟨lk_MD_isCentre, w_ml_MD_206, w_st_MD_isCentre⟩
theorem w_k_MD_210 : Cond.constantLong "SirenFairModel" 210 (-3) ∈ zWd := zin 1170 (by decide +kernel) rfl
theorem w_k_MD_212 : Cond.constantLong "SirenFairModel" 212 (3) ∈ zWd := zin 1171 (by decide +kernel) rfl
theorem w_k_MD_214 : Cond.constantLong "SirenFairModel" 214 (20) ∈ zWd := zin 1172 (by decide +kernel) rfl
def Y_MD_hearer : zY := (⟨"SirenFairModel", "hearer", "(IIII)I"⟩, prog_10_method_60_code, 5, some .int, [])
theorem w_c_MD_isPlace : Cond.code Y_MD_isPlace.1 Y_MD_isPlace.2.1 Y_MD_isPlace.2.2.1 Y_MD_isPlace.2.2.2.1 ∈ zWd := zin 1183 (by decide +kernel) rfl
theorem lk_MD_isPlace : zlk Y_MD_isPlace 2 := ⟨w_c_MD_isPlace, w_ini_MD, by decide +kernel, by decide +kernel, by decide⟩
theorem w_ml_MD_219 : Cond.methodLink "SirenFairModel" 219 Y_MD_isPlace.1 ∈ zWd := zin 1181 (by decide +kernel) rfl
theorem w_st_MD_isPlace : Cond.static Y_MD_isPlace.1 ∈ zWd := zin 1182 (by decide +kernel) rfl
theorem lkS_MD_219 : zlkS "SirenFairModel" 219 Y_MD_isPlace 2 := ⟨lk_MD_isPlace, w_ml_MD_219, w_st_MD_isPlace⟩
theorem w_c_MD_isWay : Cond.code Y_MD_isWay.1 Y_MD_isWay.2.1 Y_MD_isWay.2.2.1 Y_MD_isWay.2.2.2.1 ∈ zWd := zin 1188 (by decide +kernel) rfl
theorem lk_MD_isWay : zlk Y_MD_isWay 2 := ⟨w_c_MD_isWay, w_ini_MD, by decide +kernel, by decide +kernel, by decide⟩
theorem w_ml_MD_222 : Cond.methodLink "SirenFairModel" 222 Y_MD_isWay.1 ∈ zWd := zin 1186 (by decide +kernel) rfl
theorem w_st_MD_isWay : Cond.static Y_MD_isWay.1 ∈ zWd := zin 1187 (by decide +kernel) rfl
theorem lkS_MD_222 : zlkS "SirenFairModel" 222 Y_MD_isWay 2 := ⟨lk_MD_isWay, w_ml_MD_222, w_st_MD_isWay⟩
def Y_MD_wall : zY := (⟨"SirenFairModel", "wall", "(ZI)I"⟩, prog_10_method_61_code, 3, some .int, [])
theorem w_c_MD_wallOn : Cond.code Y_MD_wallOn.1 Y_MD_wallOn.2.1 Y_MD_wallOn.2.2.1 Y_MD_wallOn.2.2.2.1 ∈ zWd := zin 1050 (by decide +kernel) rfl
theorem lk_MD_wallOn : zlk Y_MD_wallOn 3 := ⟨w_c_MD_wallOn, w_ini_MD, by decide +kernel, by decide +kernel, by decide⟩
theorem w_ml_MD_164 : Cond.methodLink "SirenFairModel" 164 Y_MD_wallOn.1 ∈ zWd := zin 1048 (by decide +kernel) rfl
theorem w_st_MD_wallOn : Cond.static Y_MD_wallOn.1 ∈ zWd := zin 1049 (by decide +kernel) rfl
theorem lkS_MD_164 : zlkS "SirenFairModel" 164 Y_MD_wallOn 3 := ⟨lk_MD_wallOn, w_ml_MD_164, w_st_MD_wallOn⟩
def Y_MD_turn : zY := (⟨"SirenFairModel", "turn", "(IZ)I"⟩, prog_10_method_62_code, 3, some .int, [])
theorem w_c_MD_turnOn : Cond.code Y_MD_turnOn.1 Y_MD_turnOn.2.1 Y_MD_turnOn.2.2.1 Y_MD_turnOn.2.2.2.1 ∈ zWd := zin 1056 (by decide +kernel) rfl
theorem lk_MD_turnOn : zlk Y_MD_turnOn 3 := ⟨w_c_MD_turnOn, w_ini_MD, by decide +kernel, by decide +kernel, by decide⟩
theorem w_ml_MD_171 : Cond.methodLink "SirenFairModel" 171 Y_MD_turnOn.1 ∈ zWd := zin 1054 (by decide +kernel) rfl
theorem w_st_MD_turnOn : Cond.static Y_MD_turnOn.1 ∈ zWd := zin 1055 (by decide +kernel) rfl
theorem lkS_MD_171 : zlkS "SirenFairModel" 171 Y_MD_turnOn 3 := ⟨lk_MD_turnOn, w_ml_MD_171, w_st_MD_turnOn⟩
def Y_MD_walk : zY := (⟨"SirenFairModel", "walk", "(III)I"⟩, prog_10_method_63_code, 4, some .int, [])
theorem w_c_MD_walkOn : Cond.code Y_MD_walkOn.1 Y_MD_walkOn.2.1 Y_MD_walkOn.2.2.1 Y_MD_walkOn.2.2.2.1 ∈ zWd := zin 1205 (by decide +kernel) rfl
theorem lk_MD_walkOn : zlk Y_MD_walkOn 4 := ⟨w_c_MD_walkOn, w_ini_MD, by decide +kernel, by decide +kernel, by decide⟩
theorem w_ml_MD_225 : Cond.methodLink "SirenFairModel" 225 Y_MD_walkOn.1 ∈ zWd := zin 1203 (by decide +kernel) rfl
theorem w_st_MD_walkOn : Cond.static Y_MD_walkOn.1 ∈ zWd := zin 1204 (by decide +kernel) rfl
theorem lkS_MD_225 : zlkS "SirenFairModel" 225 Y_MD_walkOn 4 := ⟨lk_MD_walkOn, w_ml_MD_225, w_st_MD_walkOn⟩
def Y_MD_set : zY := (⟨"SirenFairModel", "set", "(II)I"⟩, prog_10_method_65_code, 3, some .int, [])
theorem w_c_MD_change : Cond.code Y_MD_change.1 Y_MD_change.2.1 Y_MD_change.2.2.1 Y_MD_change.2.2.2.1 ∈ zWd := zin 1062 (by decide +kernel) rfl
theorem lk_MD_change : zlk Y_MD_change 3 := ⟨w_c_MD_change, w_ini_MD, by decide +kernel, by decide +kernel, by decide⟩
theorem w_ml_MD_175 : Cond.methodLink "SirenFairModel" 175 Y_MD_change.1 ∈ zWd := zin 1060 (by decide +kernel) rfl
theorem w_st_MD_change : Cond.static Y_MD_change.1 ∈ zWd := zin 1061 (by decide +kernel) rfl
theorem lkS_MD_175 : zlkS "SirenFairModel" 175 Y_MD_change 3 := ⟨lk_MD_change, w_ml_MD_175, w_st_MD_change⟩
theorem w_c_MD_isSetting : Cond.code Y_MD_isSetting.1 Y_MD_isSetting.2.1 Y_MD_isSetting.2.2.1 Y_MD_isSetting.2.2.2.1 ∈ zWd := zin 1217 (by decide +kernel) rfl
theorem lk_MD_isSetting : zlk Y_MD_isSetting 2 := ⟨w_c_MD_isSetting, w_ini_MD, by decide +kernel, by decide +kernel, by decide⟩
theorem w_ml_MD_229 : Cond.methodLink "SirenFairModel" 229 Y_MD_isSetting.1 ∈ zWd := zin 1215 (by decide +kernel) rfl
theorem w_st_MD_isSetting : Cond.static Y_MD_isSetting.1 ∈ zWd := zin 1216 (by decide +kernel) rfl
theorem lkS_MD_229 : zlkS "SirenFairModel" 229 Y_MD_isSetting 2 := ⟨lk_MD_isSetting, w_ml_MD_229, w_st_MD_isSetting⟩
def Y_MD_tick : zY := (⟨"SirenFairModel", "tick", "([I)V"⟩, prog_10_method_28_code, 3, none, [])
theorem w_c_MD_isGone : Cond.code Y_MD_isGone.1 Y_MD_isGone.2.1 Y_MD_isGone.2.2.1 Y_MD_isGone.2.2.2.1 ∈ zWd := zin 1119 (by decide +kernel) rfl
theorem lk_MD_isGone : zlk Y_MD_isGone 2 := ⟨w_c_MD_isGone, w_ini_MD, by decide +kernel, by decide +kernel, by decide⟩
theorem w_ml_MD_103 : Cond.methodLink "SirenFairModel" 103 Y_MD_isGone.1 ∈ zWd := zin 1117 (by decide +kernel) rfl
theorem w_st_MD_isGone : Cond.static Y_MD_isGone.1 ∈ zWd := zin 1118 (by decide +kernel) rfl
theorem lkS_MD_103 : zlkS "SirenFairModel" 103 Y_MD_isGone 2 := ⟨lk_MD_isGone, w_ml_MD_103, w_st_MD_isGone⟩
theorem w_c_MD_beats : Cond.code Y_MD_beats.1 Y_MD_beats.2.1 Y_MD_beats.2.2.1 Y_MD_beats.2.2.2.1 ∈ zWd := zin 1116 (by decide +kernel) rfl
theorem lk_MD_beats : zlk Y_MD_beats 2 := ⟨w_c_MD_beats, w_ini_MD, by decide +kernel, by decide +kernel, by decide⟩
theorem w_ml_MD_100 : Cond.methodLink "SirenFairModel" 100 Y_MD_beats.1 ∈ zWd := zin 1114 (by decide +kernel) rfl
theorem w_st_MD_beats : Cond.static Y_MD_beats.1 ∈ zWd := zin 1115 (by decide +kernel) rfl
theorem lkS_MD_100 : zlkS "SirenFairModel" 100 Y_MD_beats 2 := ⟨lk_MD_beats, w_ml_MD_100, w_st_MD_beats⟩
theorem w_c_MD_isHeardNow : Cond.code Y_MD_isHeardNow.1 Y_MD_isHeardNow.2.1 Y_MD_isHeardNow.2.2.1 Y_MD_isHeardNow.2.2.2.1 ∈ zWd := zin 1098 (by decide +kernel) rfl
theorem lk_MD_isHeardNow : zlk Y_MD_isHeardNow 3 := ⟨w_c_MD_isHeardNow, w_ini_MD, by decide +kernel, by decide +kernel, by decide⟩
theorem w_ml_MD_94 : Cond.methodLink "SirenFairModel" 94 Y_MD_isHeardNow.1 ∈ zWd := zin 1096 (by decide +kernel) rfl
theorem w_st_MD_isHeardNow : Cond.static Y_MD_isHeardNow.1 ∈ zWd := zin 1097 (by decide +kernel) rfl
theorem lkS_MD_94 : zlkS "SirenFairModel" 94 Y_MD_isHeardNow 3 := ⟨lk_MD_isHeardNow, w_ml_MD_94, w_st_MD_isHeardNow⟩
theorem w_c_MD_hear : Cond.code Y_MD_hear.1 Y_MD_hear.2.1 Y_MD_hear.2.2.1 Y_MD_hear.2.2.2.1 ∈ zWd := zin 1113 (by decide +kernel) rfl
theorem lk_MD_hear : zlk Y_MD_hear 3 := ⟨w_c_MD_hear, w_ini_MD, by decide +kernel, by decide +kernel, by decide⟩
theorem w_ml_MD_97 : Cond.methodLink "SirenFairModel" 97 Y_MD_hear.1 ∈ zWd := zin 1111 (by decide +kernel) rfl
theorem w_st_MD_hear : Cond.static Y_MD_hear.1 ∈ zWd := zin 1112 (by decide +kernel) rfl
theorem lkS_MD_97 : zlkS "SirenFairModel" 97 Y_MD_hear 3 := ⟨lk_MD_hear, w_ml_MD_97, w_st_MD_hear⟩
theorem w_c_MD_gives : Cond.code Y_MD_gives.1 Y_MD_gives.2.1 Y_MD_gives.2.2.1 Y_MD_gives.2.2.2.1 ∈ zWd := zin 1083 (by decide +kernel) rfl
theorem lk_MD_gives : zlk Y_MD_gives 2 := ⟨w_c_MD_gives, w_ini_MD, by decide +kernel, by decide +kernel, by decide⟩
theorem w_ml_MD_91 : Cond.methodLink "SirenFairModel" 91 Y_MD_gives.1 ∈ zWd := zin 1081 (by decide +kernel) rfl
theorem w_st_MD_gives : Cond.static Y_MD_gives.1 ∈ zWd := zin 1082 (by decide +kernel) rfl
theorem lkS_MD_91 : zlkS "SirenFairModel" 91 Y_MD_gives 2 := ⟨lk_MD_gives, w_ml_MD_91, w_st_MD_gives⟩
theorem w_c_MD_walks : Cond.code Y_MD_walks.1 Y_MD_walks.2.1 Y_MD_walks.2.2.1 Y_MD_walks.2.2.2.1 ∈ zWd := zin 1077 (by decide +kernel) rfl
theorem lk_MD_walks : zlk Y_MD_walks 3 := ⟨w_c_MD_walks, w_ini_MD, by decide +kernel, by decide +kernel, by decide⟩
theorem w_ml_MD_87 : Cond.methodLink "SirenFairModel" 87 Y_MD_walks.1 ∈ zWd := zin 1075 (by decide +kernel) rfl
theorem w_st_MD_walks : Cond.static Y_MD_walks.1 ∈ zWd := zin 1076 (by decide +kernel) rfl
theorem lkS_MD_87 : zlkS "SirenFairModel" 87 Y_MD_walks 3 := ⟨lk_MD_walks, w_ml_MD_87, w_st_MD_walks⟩
theorem w_c_MD_onRing : Cond.code Y_MD_onRing.1 Y_MD_onRing.2.1 Y_MD_onRing.2.2.1 Y_MD_onRing.2.2.2.1 ∈ zWd := zin 1071 (by decide +kernel) rfl
theorem lk_MD_onRing : zlk Y_MD_onRing 3 := ⟨w_c_MD_onRing, w_ini_MD, by decide +kernel, by decide +kernel, by decide⟩
theorem w_ml_MD_84 : Cond.methodLink "SirenFairModel" 84 Y_MD_onRing.1 ∈ zWd := zin 1069 (by decide +kernel) rfl
theorem w_st_MD_onRing : Cond.static Y_MD_onRing.1 ∈ zWd := zin 1070 (by decide +kernel) rfl
theorem lkS_MD_84 : zlkS "SirenFairModel" 84 Y_MD_onRing 3 := ⟨lk_MD_onRing, w_ml_MD_84, w_st_MD_onRing⟩
def Y_MD_hearerOf : zY := (⟨"SirenFairModel", "hearerOf", "(II)I"⟩, prog_10_method_53_code, 3, some .int, [])
theorem w_c_MD_nearest : Cond.code Y_MD_nearest.1 Y_MD_nearest.2.1 Y_MD_nearest.2.2.1 Y_MD_nearest.2.2.2.1 ∈ zWd := zin 1145 (by decide +kernel) rfl
theorem lk_MD_nearest : zlk Y_MD_nearest 2 := ⟨w_c_MD_nearest, w_ini_MD, by decide +kernel, by decide +kernel, by decide⟩
theorem w_ml_MD_200 : Cond.methodLink "SirenFairModel" 200 Y_MD_nearest.1 ∈ zWd := zin 1143 (by decide +kernel) rfl
theorem w_st_MD_nearest : Cond.static Y_MD_nearest.1 ∈ zWd := zin 1144 (by decide +kernel) rfl
theorem lkS_MD_200 : zlkS "SirenFairModel" 200 Y_MD_nearest 2 := ⟨lk_MD_nearest, w_ml_MD_200, w_st_MD_nearest⟩
def Y_MD_sirenIn : zY := (⟨"SirenFairModel", "sirenIn", "(III)I"⟩, prog_10_method_67_code, 4, some .int, [])
theorem w_k_MD_232 : Cond.constantLong "SirenFairModel" 232 (1000) ∈ zWd := zin 1226 (by decide +kernel) rfl
def Y_MD_ticksOn : zY := (⟨"SirenFairModel", "ticksOn", "([II)I"⟩, prog_10_method_29_code, 4, some .int, [])
theorem w_c_MD_tick : Cond.code Y_MD_tick.1 Y_MD_tick.2.1 Y_MD_tick.2.2.1 Y_MD_tick.2.2.2.1 ∈ zWd := zin 1068 (by decide +kernel) rfl
theorem lk_MD_tick : zlk Y_MD_tick 1 := ⟨w_c_MD_tick, w_ini_MD, by decide +kernel, by decide +kernel, by decide⟩
theorem w_ml_MD_107 : Cond.methodLink "SirenFairModel" 107 Y_MD_tick.1 ∈ zWd := zin 1066 (by decide +kernel) rfl
theorem w_st_MD_tick : Cond.static Y_MD_tick.1 ∈ zWd := zin 1067 (by decide +kernel) rfl
theorem lkS_MD_107 : zlkS "SirenFairModel" 107 Y_MD_tick 1 := ⟨lk_MD_tick, w_ml_MD_107, w_st_MD_tick⟩
def Y_MD_heardIn : zY := (⟨"SirenFairModel", "heardIn", "(II)I"⟩, prog_10_method_68_code, 5, some .int, [])
def Y_MD_quietIn : zY := (⟨"SirenFairModel", "quietIn", "()I"⟩, prog_10_method_69_code, 2, some .int, [])
def Y_MD_readCommand : zY := (⟨"SirenFairModel", "readCommand", "([I)Z"⟩, prog_10_method_46_code, 5, some .boolean, [])
theorem w_c_MD_readHearer : Cond.code Y_MD_readHearer.1 Y_MD_readHearer.2.1 Y_MD_readHearer.2.2.1 Y_MD_readHearer.2.2.2.1 ∈ zWd := zin 1040 (by decide +kernel) rfl
theorem lk_MD_readHearer : zlk Y_MD_readHearer 1 := ⟨w_c_MD_readHearer, w_ini_MD, by decide +kernel, by decide +kernel, by decide⟩
theorem w_ml_MD_157 : Cond.methodLink "SirenFairModel" 157 Y_MD_readHearer.1 ∈ zWd := zin 1037 (by decide +kernel) rfl
theorem w_im_MD_readHearer : Cond.instanceMethod Y_MD_readHearer.1 ∈ zWd := zin 1039 (by decide +kernel) rfl
theorem w_sel_MD_readHearer : Cond.selects "SirenFairModel" Y_MD_readHearer.1 Y_MD_readHearer.1 ∈ zWd := zin 21 (by decide +kernel) rfl
theorem lkV_MD_157 : zlkV "SirenFairModel" 157 Y_MD_readHearer 1 := ⟨lk_MD_readHearer, w_ml_MD_157, w_im_MD_readHearer, w_sel_MD_readHearer⟩
theorem w_c_MD_either : Cond.code Y_MD_either.1 Y_MD_either.2.1 Y_MD_either.2.2.1 Y_MD_either.2.2.2.1 ∈ zWd := zin 1047 (by decide +kernel) rfl
theorem lk_MD_either : zlk Y_MD_either 3 := ⟨w_c_MD_either, w_ini_MD, by decide +kernel, by decide +kernel, by decide⟩
theorem w_ml_MD_160 : Cond.methodLink "SirenFairModel" 160 Y_MD_either.1 ∈ zWd := zin 1044 (by decide +kernel) rfl
theorem w_im_MD_either : Cond.instanceMethod Y_MD_either.1 ∈ zWd := zin 1046 (by decide +kernel) rfl
theorem w_sel_MD_either : Cond.selects "SirenFairModel" Y_MD_either.1 Y_MD_either.1 ∈ zWd := zin 22 (by decide +kernel) rfl
theorem lkV_MD_160 : zlkV "SirenFairModel" 160 Y_MD_either 3 := ⟨lk_MD_either, w_ml_MD_160, w_im_MD_either, w_sel_MD_either⟩
theorem w_c_MD_readSiren : Cond.code Y_MD_readSiren.1 Y_MD_readSiren.2.1 Y_MD_readSiren.2.2.1 Y_MD_readSiren.2.2.2.1 ∈ zWd := zin 1024 (by decide +kernel) rfl
theorem lk_MD_readSiren : zlk Y_MD_readSiren 1 := ⟨w_c_MD_readSiren, w_ini_MD, by decide +kernel, by decide +kernel, by decide⟩
theorem w_ml_MD_153 : Cond.methodLink "SirenFairModel" 153 Y_MD_readSiren.1 ∈ zWd := zin 1021 (by decide +kernel) rfl
theorem w_im_MD_readSiren : Cond.instanceMethod Y_MD_readSiren.1 ∈ zWd := zin 1023 (by decide +kernel) rfl
theorem w_sel_MD_readSiren : Cond.selects "SirenFairModel" Y_MD_readSiren.1 Y_MD_readSiren.1 ∈ zWd := zin 18 (by decide +kernel) rfl
theorem lkV_MD_153 : zlkV "SirenFairModel" 153 Y_MD_readSiren 1 := ⟨lk_MD_readSiren, w_ml_MD_153, w_im_MD_readSiren, w_sel_MD_readSiren⟩
theorem w_c_MD_ticksOn : Cond.code Y_MD_ticksOn.1 Y_MD_ticksOn.2.1 Y_MD_ticksOn.2.2.1 Y_MD_ticksOn.2.2.2.1 ∈ zWd := zin 1065 (by decide +kernel) rfl
theorem lk_MD_ticksOn : zlk Y_MD_ticksOn 2 := ⟨w_c_MD_ticksOn, w_ini_MD, by decide +kernel, by decide +kernel, by decide⟩
theorem w_ml_MD_178 : Cond.methodLink "SirenFairModel" 178 Y_MD_ticksOn.1 ∈ zWd := zin 1063 (by decide +kernel) rfl
theorem w_st_MD_ticksOn : Cond.static Y_MD_ticksOn.1 ∈ zWd := zin 1064 (by decide +kernel) rfl
theorem lkS_MD_178 : zlkS "SirenFairModel" 178 Y_MD_ticksOn 2 := ⟨lk_MD_ticksOn, w_ml_MD_178, w_st_MD_ticksOn⟩
def Y_MD_ticks : zY := (⟨"SirenFairModel", "ticks", "(I)I"⟩, prog_10_method_64_code, 2, some .int, [])
def Y_MD_leastSpeed : zY := (⟨"SirenFairModel", "leastSpeed", "(I)I"⟩, prog_10_method_70_code, 3, some .int, [])
def Y_MD_command : zY := (⟨"SirenFairModel", "command", "(II)Z"⟩, prog_10_method_71_code, 8, some .boolean, [])
def Y_MD_turnOf : zY := (⟨"SirenFairModel", "turnOf", "([III)V"⟩, prog_10_method_73_code, 3, none, [])
theorem w_k_MD_241 : Cond.constant "SirenFairModel" 241 (131072) ∈ zWd := zin 1260 (by decide +kernel) rfl
theorem w_k_MD_239 : Cond.constant "SirenFairModel" 239 (32768) ∈ zWd := zin 1258 (by decide +kernel) rfl
theorem w_k_MD_240 : Cond.constant "SirenFairModel" 240 (262144) ∈ zWd := zin 1259 (by decide +kernel) rfl
def Y_MD_readText : zY := (⟨"SirenFairModel", "readText", "([I)I"⟩, prog_10_method_47_code, 2, some .int, [])
theorem w_c_MD_readCommand : Cond.code Y_MD_readCommand.1 Y_MD_readCommand.2.1 Y_MD_readCommand.2.2.1 Y_MD_readCommand.2.2.2.1 ∈ zWd := zin 1020 (by decide +kernel) rfl
theorem lk_MD_readCommand : zlk Y_MD_readCommand 1 := ⟨w_c_MD_readCommand, w_ini_MD, by decide +kernel, by decide +kernel, by decide⟩
theorem w_ml_MD_181 : Cond.methodLink "SirenFairModel" 181 Y_MD_readCommand.1 ∈ zWd := zin 1017 (by decide +kernel) rfl
theorem w_im_MD_readCommand : Cond.instanceMethod Y_MD_readCommand.1 ∈ zWd := zin 1019 (by decide +kernel) rfl
theorem w_sel_MD_readCommand : Cond.selects "SirenFairModel" Y_MD_readCommand.1 Y_MD_readCommand.1 ∈ zWd := zin 17 (by decide +kernel) rfl
theorem lkV_MD_181 : zlkV "SirenFairModel" 181 Y_MD_readCommand 1 := ⟨lk_MD_readCommand, w_ml_MD_181, w_im_MD_readCommand, w_sel_MD_readCommand⟩
def Y_MD_runScript : zY := (⟨"SirenFairModel", "runScript", "(IJ)I"⟩, prog_10_method_72_code, 8, some .int, [])
theorem w_k_MD_234 : Cond.constantLong "SirenFairModel" 234 (100000) ∈ zWd := zin 1243 (by decide +kernel) rfl
theorem w_c_MD_command : Cond.code Y_MD_command.1 Y_MD_command.2.1 Y_MD_command.2.2.1 Y_MD_command.2.2.2.1 ∈ zWd := zin 1247 (by decide +kernel) rfl
theorem lk_MD_command : zlk Y_MD_command 2 := ⟨w_c_MD_command, w_ini_MD, by decide +kernel, by decide +kernel, by decide⟩
theorem w_ml_MD_236 : Cond.methodLink "SirenFairModel" 236 Y_MD_command.1 ∈ zWd := zin 1244 (by decide +kernel) rfl
theorem w_im_MD_command : Cond.instanceMethod Y_MD_command.1 ∈ zWd := zin 1246 (by decide +kernel) rfl
theorem w_sel_MD_command : Cond.selects "SirenFairModel" Y_MD_command.1 Y_MD_command.1 ∈ zWd := zin 24 (by decide +kernel) rfl
theorem lkV_MD_236 : zlkV "SirenFairModel" 236 Y_MD_command 2 := ⟨lk_MD_command, w_ml_MD_236, w_im_MD_command, w_sel_MD_command⟩
def Y_MD_simulate : zY := (⟨"SirenFairModel", "simulate", "(JI)I"⟩, prog_10_method_74_code, 8, some .int, [])
theorem w_k_MD_244 : Cond.constantLong "SirenFairModel" 244 (6364136223846793005) ∈ zWd := zin 1253 (by decide +kernel) rfl
theorem w_k_MD_246 : Cond.constantLong "SirenFairModel" 246 (1442695040888963407) ∈ zWd := zin 1254 (by decide +kernel) rfl
theorem w_c_MD_turnOf : Cond.code Y_MD_turnOf.1 Y_MD_turnOf.2.1 Y_MD_turnOf.2.2.1 Y_MD_turnOf.2.2.2.1 ∈ zWd := zin 1257 (by decide +kernel) rfl
theorem lk_MD_turnOf : zlk Y_MD_turnOf 3 := ⟨w_c_MD_turnOf, w_ini_MD, by decide +kernel, by decide +kernel, by decide⟩
theorem w_ml_MD_248 : Cond.methodLink "SirenFairModel" 248 Y_MD_turnOf.1 ∈ zWd := zin 1255 (by decide +kernel) rfl
theorem w_st_MD_turnOf : Cond.static Y_MD_turnOf.1 ∈ zWd := zin 1256 (by decide +kernel) rfl
theorem lkS_MD_248 : zlkS "SirenFairModel" 248 Y_MD_turnOf 3 := ⟨lk_MD_turnOf, w_ml_MD_248, w_st_MD_turnOf⟩
theorem w_k_MD_242 : Cond.constantLong "SirenFairModel" 242 (60) ∈ zWd := zin 1252 (by decide +kernel) rfl
def Y_MD_errorPosition : zY := (⟨"SirenFairModel", "errorPosition", "()I"⟩, prog_10_method_48_code, 1, some .int, [])
theorem w_c_MD_readText : Cond.code Y_MD_readText.1 Y_MD_readText.2.1 Y_MD_readText.2.2.1 Y_MD_readText.2.2.2.1 ∈ zWd := zin 1016 (by decide +kernel) rfl
theorem lk_MD_readText : zlk Y_MD_readText 1 := ⟨w_c_MD_readText, w_ini_MD, by decide +kernel, by decide +kernel, by decide⟩
theorem w_ml_MD_184 : Cond.methodLink "SirenFairModel" 184 Y_MD_readText.1 ∈ zWd := zin 1013 (by decide +kernel) rfl
theorem w_im_MD_readText : Cond.instanceMethod Y_MD_readText.1 ∈ zWd := zin 1015 (by decide +kernel) rfl
theorem w_sel_MD_readText : Cond.selects "SirenFairModel" Y_MD_readText.1 Y_MD_readText.1 ∈ zWd := zin 16 (by decide +kernel) rfl
theorem lkV_MD_184 : zlkV "SirenFairModel" 184 Y_MD_readText 1 := ⟨lk_MD_readText, w_ml_MD_184, w_im_MD_readText, w_sel_MD_readText⟩
def Y_MD_load : zY := (⟨"SirenFairModel", "load", "()I"⟩, prog_10_method_49_code, 1, some .int, [])
theorem d_MD_onRing_0 : decode Y_MD_onRing.2.1 0 = .ok (.aload_n 0, 1) := by decide +kernel
theorem d_MD_onRing_1 : decode Y_MD_onRing.2.1 1 = .ok (.iload_n 1, 1) := by decide +kernel
theorem d_MD_onRing_2 : decode Y_MD_onRing.2.1 2 = .ok (.invokestatic 49, 3) := by decide +kernel
theorem d_MD_onRing_5 : decode Y_MD_onRing.2.1 5 = .ok (.istore_n 3, 1) := by decide +kernel
theorem d_MD_onRing_6 : decode Y_MD_onRing.2.1 6 = .ok (.iload_n 2, 1) := by decide +kernel
theorem d_MD_onRing_7 : decode Y_MD_onRing.2.1 7 = .ok (.iload_n 3, 1) := by decide +kernel
theorem d_MD_onRing_8 : decode Y_MD_onRing.2.1 8 = .ok (.irem, 1) := by decide +kernel
theorem d_MD_onRing_9 : decode Y_MD_onRing.2.1 9 = .ok (.iload_n 3, 1) := by decide +kernel
theorem d_MD_onRing_10 : decode Y_MD_onRing.2.1 10 = .ok (.iadd, 1) := by decide +kernel
theorem d_MD_onRing_11 : decode Y_MD_onRing.2.1 11 = .ok (.iload_n 3, 1) := by decide +kernel
theorem d_MD_onRing_12 : decode Y_MD_onRing.2.1 12 = .ok (.irem, 1) := by decide +kernel
theorem d_MD_onRing_13 : decode Y_MD_onRing.2.1 13 = .ok (.ireturn, 1) := by decide +kernel
def f_MD_onRing (w : zW) (D : zD) (r0 : Nat) (x1 : Int32) (x2 : Int32) : Option (Int32 × zD) := zci (f_MD_ring w D r0 x1) (fun v1 D2 => zchk (¬ v1 = 0) (zchk (¬ v1 = 0) (some (zirem ((zirem x2 v1) + v1) v1, D2))))
set_option maxHeartbeats 4000000 in
set_option maxRecDepth 100000 in
theorem c_MD_onRing (z : zT) (D : zD) (r0 : Nat) (x1 : Int32) (x2 : Int32) : zM Y_MD_onRing 3 0 0 (zqI z) (f_MD_onRing z.2 D r0 x1 x2) [.ref r0, .int x1, .int x2] z D := by
  refine zM_of (plainFor_of_name (by decide +kernel)) rfl (Nat.le_of_ble_eq_true rfl) (fun _ _ _ _ h => nomatch h.1) (fun K => ?_)
  unfold f_MD_onRing
  refine z_aload_n (pc := 0) d_MD_onRing_0 rfl 0 rfl ?_
  refine z_iload_n (pc := 1) d_MD_onRing_1 rfl 1 rfl ?_
  refine z_callSi (pc := 2) [.ref r0, .int x1] lkS_MD_49 (c_MD_ring z D r0 x1) (by decide) rfl rfl (Nat.le_of_ble_eq_true rfl) d_MD_onRing_2 (fun v1 D2 => ?_)
  refine z_istore_n (pc := 5) d_MD_onRing_5 rfl (by decide) (lv' := [(3, .int v1), (0, .ref r0), (1, .int x1), (2, .int x2)]) rfl ?_
  refine z_iload_n (pc := 6) d_MD_onRing_6 rfl 3 rfl ?_
  refine z_iload_n (pc := 7) d_MD_onRing_7 rfl 0 rfl ?_
  refine z_irem (pc := 8) d_MD_onRing_8 ?_
  refine z_iload_n (pc := 9) d_MD_onRing_9 rfl 0 rfl ?_
  refine z_iadd (pc := 10) d_MD_onRing_10 ?_
  refine z_iload_n (pc := 11) d_MD_onRing_11 rfl 0 rfl ?_
  refine z_irem (pc := 12) d_MD_onRing_12 ?_
  exact z_iret (pc := 13) d_MD_onRing_13 rfl
theorem d_MD_gives_0 : decode Y_MD_gives.2.1 0 = .ok (.aload_n 0, 1) := by decide +kernel
theorem d_MD_gives_1 : decode Y_MD_gives.2.1 1 = .ok (.iload_n 1, 1) := by decide +kernel
theorem d_MD_gives_2 : decode Y_MD_gives.2.1 2 = .ok (.invokestatic 57, 3) := by decide +kernel
theorem d_MD_gives_5 : decode Y_MD_gives.2.1 5 = .ok (.istore_n 2, 1) := by decide +kernel
theorem d_MD_gives_6 : decode Y_MD_gives.2.1 6 = .ok (.aload_n 0, 1) := by decide +kernel
theorem d_MD_gives_7 : decode Y_MD_gives.2.1 7 = .ok (.iload_n 1, 1) := by decide +kernel
theorem d_MD_gives_8 : decode Y_MD_gives.2.1 8 = .ok (.invokestatic 60, 3) := by decide +kernel
theorem d_MD_gives_11 : decode Y_MD_gives.2.1 11 = .ok (.istore_n 3, 1) := by decide +kernel
theorem d_MD_gives_12 : decode Y_MD_gives.2.1 12 = .ok (.aload_n 0, 1) := by decide +kernel
theorem d_MD_gives_13 : decode Y_MD_gives.2.1 13 = .ok (.iload_n 1, 1) := by decide +kernel
theorem d_MD_gives_14 : decode Y_MD_gives.2.1 14 = .ok (.iload_n 2, 1) := by decide +kernel
theorem d_MD_gives_15 : decode Y_MD_gives.2.1 15 = .ok (.iload_n 3, 1) := by decide +kernel
theorem d_MD_gives_16 : decode Y_MD_gives.2.1 16 = .ok (.iconst (-1), 1) := by decide +kernel
theorem d_MD_gives_17 : decode Y_MD_gives.2.1 17 = .ok (.invokestatic 63, 3) := by decide +kernel
theorem d_MD_gives_20 : decode Y_MD_gives.2.1 20 = .ok (.iconst (0), 1) := by decide +kernel
theorem d_MD_gives_21 : decode Y_MD_gives.2.1 21 = .ok (.istore 4, 2) := by decide +kernel
theorem d_MD_gives_23 : decode Y_MD_gives.2.1 23 = .ok (.iload 4, 2) := by decide +kernel
theorem d_MD_gives_25 : decode Y_MD_gives.2.1 25 = .ok (.aload_n 0, 1) := by decide +kernel
theorem d_MD_gives_26 : decode Y_MD_gives.2.1 26 = .ok (.iconst (2), 1) := by decide +kernel
theorem d_MD_gives_27 : decode Y_MD_gives.2.1 27 = .ok (.iaload, 1) := by decide +kernel
theorem d_MD_gives_28 : decode Y_MD_gives.2.1 28 = .ok (.if_icmp .ge (94), 3) := by decide +kernel
theorem d_MD_gives_31 : decode Y_MD_gives.2.1 31 = .ok (.aload_n 0, 1) := by decide +kernel
theorem d_MD_gives_32 : decode Y_MD_gives.2.1 32 = .ok (.bipush (59), 2) := by decide +kernel
theorem d_MD_gives_34 : decode Y_MD_gives.2.1 34 = .ok (.iconst (2), 1) := by decide +kernel
theorem d_MD_gives_35 : decode Y_MD_gives.2.1 35 = .ok (.iload 4, 2) := by decide +kernel
theorem d_MD_gives_37 : decode Y_MD_gives.2.1 37 = .ok (.imul, 1) := by decide +kernel
theorem d_MD_gives_38 : decode Y_MD_gives.2.1 38 = .ok (.iadd, 1) := by decide +kernel
theorem d_MD_gives_39 : decode Y_MD_gives.2.1 39 = .ok (.iaload, 1) := by decide +kernel
theorem d_MD_gives_40 : decode Y_MD_gives.2.1 40 = .ok (.iconst (1), 1) := by decide +kernel
theorem d_MD_gives_41 : decode Y_MD_gives.2.1 41 = .ok (.if_icmp .ne (7), 3) := by decide +kernel
theorem d_MD_gives_44 : decode Y_MD_gives.2.1 44 = .ok (.iconst (1), 1) := by decide +kernel
theorem d_MD_gives_45 : decode Y_MD_gives.2.1 45 = .ok (.goto (4), 3) := by decide +kernel
theorem d_MD_gives_48 : decode Y_MD_gives.2.1 48 = .ok (.iconst (0), 1) := by decide +kernel
theorem d_MD_gives_49 : decode Y_MD_gives.2.1 49 = .ok (.istore 5, 2) := by decide +kernel
theorem d_MD_gives_51 : decode Y_MD_gives.2.1 51 = .ok (.aload_n 0, 1) := by decide +kernel
theorem d_MD_gives_52 : decode Y_MD_gives.2.1 52 = .ok (.bipush (59), 2) := by decide +kernel
theorem d_MD_gives_54 : decode Y_MD_gives.2.1 54 = .ok (.iconst (2), 1) := by decide +kernel
theorem d_MD_gives_55 : decode Y_MD_gives.2.1 55 = .ok (.iload 4, 2) := by decide +kernel
theorem d_MD_gives_57 : decode Y_MD_gives.2.1 57 = .ok (.imul, 1) := by decide +kernel
theorem d_MD_gives_58 : decode Y_MD_gives.2.1 58 = .ok (.iadd, 1) := by decide +kernel
theorem d_MD_gives_59 : decode Y_MD_gives.2.1 59 = .ok (.iconst (1), 1) := by decide +kernel
theorem d_MD_gives_60 : decode Y_MD_gives.2.1 60 = .ok (.iadd, 1) := by decide +kernel
theorem d_MD_gives_61 : decode Y_MD_gives.2.1 61 = .ok (.iaload, 1) := by decide +kernel
theorem d_MD_gives_62 : decode Y_MD_gives.2.1 62 = .ok (.istore 6, 2) := by decide +kernel
theorem d_MD_gives_64 : decode Y_MD_gives.2.1 64 = .ok (.iload 5, 2) := by decide +kernel
theorem d_MD_gives_66 : decode Y_MD_gives.2.1 66 = .ok (.ifCond .eq (7), 3) := by decide +kernel
theorem d_MD_gives_69 : decode Y_MD_gives.2.1 69 = .ok (.iload_n 2, 1) := by decide +kernel
theorem d_MD_gives_70 : decode Y_MD_gives.2.1 70 = .ok (.goto (4), 3) := by decide +kernel
theorem d_MD_gives_73 : decode Y_MD_gives.2.1 73 = .ok (.iload_n 3, 1) := by decide +kernel
theorem d_MD_gives_74 : decode Y_MD_gives.2.1 74 = .ok (.iload 6, 2) := by decide +kernel
theorem d_MD_gives_76 : decode Y_MD_gives.2.1 76 = .ok (.if_icmp .eq (40), 3) := by decide +kernel
theorem d_MD_gives_79 : decode Y_MD_gives.2.1 79 = .ok (.aload_n 0, 1) := by decide +kernel
theorem d_MD_gives_80 : decode Y_MD_gives.2.1 80 = .ok (.iload_n 1, 1) := by decide +kernel
theorem d_MD_gives_81 : decode Y_MD_gives.2.1 81 = .ok (.iload 5, 2) := by decide +kernel
theorem d_MD_gives_83 : decode Y_MD_gives.2.1 83 = .ok (.ifCond .eq (12), 3) := by decide +kernel
theorem d_MD_gives_86 : decode Y_MD_gives.2.1 86 = .ok (.iconst (2), 1) := by decide +kernel
theorem d_MD_gives_87 : decode Y_MD_gives.2.1 87 = .ok (.iload 6, 2) := by decide +kernel
theorem d_MD_gives_89 : decode Y_MD_gives.2.1 89 = .ok (.imul, 1) := by decide +kernel
theorem d_MD_gives_90 : decode Y_MD_gives.2.1 90 = .ok (.iload_n 2, 1) := by decide +kernel
theorem d_MD_gives_91 : decode Y_MD_gives.2.1 91 = .ok (.isub, 1) := by decide +kernel
theorem d_MD_gives_92 : decode Y_MD_gives.2.1 92 = .ok (.goto (4), 3) := by decide +kernel
theorem d_MD_gives_95 : decode Y_MD_gives.2.1 95 = .ok (.iload_n 2, 1) := by decide +kernel
theorem d_MD_gives_96 : decode Y_MD_gives.2.1 96 = .ok (.iload 5, 2) := by decide +kernel
theorem d_MD_gives_98 : decode Y_MD_gives.2.1 98 = .ok (.ifCond .eq (7), 3) := by decide +kernel
theorem d_MD_gives_101 : decode Y_MD_gives.2.1 101 = .ok (.iload_n 3, 1) := by decide +kernel
theorem d_MD_gives_102 : decode Y_MD_gives.2.1 102 = .ok (.goto (9), 3) := by decide +kernel
theorem d_MD_gives_105 : decode Y_MD_gives.2.1 105 = .ok (.iconst (2), 1) := by decide +kernel
theorem d_MD_gives_106 : decode Y_MD_gives.2.1 106 = .ok (.iload 6, 2) := by decide +kernel
theorem d_MD_gives_108 : decode Y_MD_gives.2.1 108 = .ok (.imul, 1) := by decide +kernel
theorem d_MD_gives_109 : decode Y_MD_gives.2.1 109 = .ok (.iload_n 3, 1) := by decide +kernel
theorem d_MD_gives_110 : decode Y_MD_gives.2.1 110 = .ok (.isub, 1) := by decide +kernel
theorem d_MD_gives_111 : decode Y_MD_gives.2.1 111 = .ok (.iload 4, 2) := by decide +kernel
theorem d_MD_gives_113 : decode Y_MD_gives.2.1 113 = .ok (.invokestatic 63, 3) := by decide +kernel
theorem d_MD_gives_116 : decode Y_MD_gives.2.1 116 = .ok (.iinc 4 (1), 3) := by decide +kernel
theorem d_MD_gives_119 : decode Y_MD_gives.2.1 119 = .ok (.goto (-96), 3) := by decide +kernel
theorem d_MD_gives_122 : decode Y_MD_gives.2.1 122 = .ok (.return_, 1) := by decide +kernel
def f_MD_gives (w : zW) (D : zD) (r0 : Nat) (x1 : Int32) : Option (zD) := zjp (zlp (fun (_ : Int32) (_ : Int32) (_ : Int32) (_ : zD) => none) (fun (j23 : Int32 → Int32 → Int32 → zD → Option (zD)) (x2 : Int32) (x3 : Int32) (x4 : Int32) (D1 : zD) => zald w D1 0 r0 (2 : Int32) (fun v2 => (if v2 ≤ x4 then some D1 else zjp (fun (x2 : Int32) (x3 : Int32) (x4 : Int32) (s0 : Int32) (D3 : zD) => zjp (fun (x2 : Int32) (x3 : Int32) (x4 : Int32) (x5 : Int32) (x6 : Int32) (s0 : Int32) (D4 : zD) => zjp (fun (x2 : Int32) (x3 : Int32) (x4 : Int32) (D5 : zD) => zlet (x4 + (1 : Int32)) (fun v6 => j23 x2 x3 v6 D5)) (fun j116 => (if s0 = x6 then j116 x2 x3 x4 D4 else zjp (fun (x2 : Int32) (x3 : Int32) (x4 : Int32) (x5 : Int32) (x6 : Int32) (s0 : Nat) (s1 : Int32) (s2 : Int32) (D7 : zD) => zjp (fun (x2 : Int32) (x3 : Int32) (x4 : Int32) (s0 : Nat) (s1 : Int32) (s2 : Int32) (s3 : Int32) (D8 : zD) => zcv (f_MD_give w D8 s0 s1 s2 s3 x4) (fun D9 => j116 x2 x3 x4 D9)) (fun j111 => (if x5 = 0 then j111 x2 x3 x4 s0 s1 s2 (((2 : Int32) * x6) - x3) D7 else j111 x2 x3 x4 s0 s1 s2 x3 D7))) (fun j96 => (if x5 = 0 then j96 x2 x3 x4 x5 x6 r0 x1 x2 D4 else j96 x2 x3 x4 x5 x6 r0 x1 (((2 : Int32) * x6) - x2) D4))))) (fun j74 => zald w D3 0 r0 (((59 : Int32) + ((2 : Int32) * x4)) + (1 : Int32)) (fun v10 => (if s0 = 0 then j74 x2 x3 x4 s0 v10 x3 D3 else j74 x2 x3 x4 s0 v10 x2 D3)))) (fun j49 => zald w D1 0 r0 ((59 : Int32) + ((2 : Int32) * x4)) (fun v11 => (if v11 = (1 : Int32) then j49 x2 x3 x4 (1 : Int32) D1 else j49 x2 x3 x4 (0 : Int32) D1)))))) zfuel) (fun j23 => zci (f_MD_xOf w D r0 x1) (fun v12 D13 => zci (f_MD_yOf w D13 r0 x1) (fun v14 D15 => zcv (f_MD_give w D15 r0 x1 v12 v14 (-1 : Int32)) (fun D16 => j23 v12 v14 (0 : Int32) D16))))
set_option maxHeartbeats 4000000 in
set_option maxRecDepth 100000 in
theorem c_MD_gives (z : zT) (D : zD) (r0 : Nat) (x1 : Int32) : zM Y_MD_gives 3 0 0 (zqV z) (f_MD_gives z.2 D r0 x1) [.ref r0, .int x1] z D := by
  refine zM_of (plainFor_of_name (by decide +kernel)) rfl (Nat.le_of_ble_eq_true rfl) (fun _ _ _ _ h => nomatch h.1) (fun K => ?_)
  unfold f_MD_gives
  refine z_jp (fun j23 : Int32 → Int32 → Int32 → zD → Option (zD) => ∀ (x2 : Int32) (x3 : Int32) (x4 : Int32) (D1 : zD), zGO K Y_MD_gives 3 0 0 (zqV z) (j23 x2 x3 x4 D1) 0 0 z D1 23 [(0, .ref r0), (1, .int x1), (2, .int x2), (3, .int x3), (4, .int x4)] []) (z_lp (fun j23 : Int32 → Int32 → Int32 → zD → Option (zD) => ∀ (x2 : Int32) (x3 : Int32) (x4 : Int32) (D1 : zD), zGO K Y_MD_gives 3 0 0 (zqV z) (j23 x2 x3 x4 D1) 0 0 z D1 23 [(0, .ref r0), (1, .int x1), (2, .int x2), (3, .int x3), (4, .int x4)] []) (fun _ _ _ _ => z_none) (fun j23 h23 x2 x3 x4 D1 => ?_) zfuel) (fun j23 h23 => ?_)
  · refine z_iload (pc := 23) d_MD_gives_23 4 rfl ?_
    refine z_aload_n (pc := 25) d_MD_gives_25 rfl 0 rfl ?_
    refine z_iconst (pc := 26) d_MD_gives_26 ki_2 ?_
    refine z_iaload (pc := 27) d_MD_gives_27 (fun v2 => ?_)
    refine z_icmp_ge (pc := 28) (tgt := 122) d_MD_gives_28 (by decide) ?_ ?_
    · exact z_vret (pc := 122) d_MD_gives_122 rfl
    · refine z_jp (fun j49 : Int32 → Int32 → Int32 → Int32 → zD → Option (zD) => ∀ (x2 : Int32) (x3 : Int32) (x4 : Int32) (s0 : Int32) (D3 : zD), zGO K Y_MD_gives 3 0 0 (zqV z) (j49 x2 x3 x4 s0 D3) 0 0 z D3 49 [(0, .ref r0), (1, .int x1), (2, .int x2), (3, .int x3), (4, .int x4)] [.int s0]) (fun x2 x3 x4 s0 D3 => ?_) (fun j49 h49 => ?_)
      · refine z_jp (fun j74 : Int32 → Int32 → Int32 → Int32 → Int32 → Int32 → zD → Option (zD) => ∀ (x2 : Int32) (x3 : Int32) (x4 : Int32) (x5 : Int32) (x6 : Int32) (s0 : Int32) (D4 : zD), zGO K Y_MD_gives 3 0 0 (zqV z) (j74 x2 x3 x4 x5 x6 s0 D4) 0 0 z D4 74 [(0, .ref r0), (1, .int x1), (2, .int x2), (3, .int x3), (4, .int x4), (5, .int x5), (6, .int x6)] [.int s0]) (fun x2 x3 x4 x5 x6 s0 D4 => ?_) (fun j74 h74 => ?_)
        · refine z_jp (fun j116 : Int32 → Int32 → Int32 → zD → Option (zD) => ∀ (x2 : Int32) (x3 : Int32) (x4 : Int32) (D5 : zD), zGO K Y_MD_gives 3 0 0 (zqV z) (j116 x2 x3 x4 D5) 0 0 z D5 116 [(0, .ref r0), (1, .int x1), (2, .int x2), (3, .int x3), (4, .int x4)] []) (fun x2 x3 x4 D5 => ?_) (fun j116 h116 => ?_)
          · refine z_iincL (pc := 116) d_MD_gives_116 ki_1 4 rfl (by decide) (fun v6 => z_lvc (lv2 := [(4, .int v6), (0, .ref r0), (1, .int x1), (2, .int x2), (3, .int x3)]) rfl ?_)
            refine z_goto (pc := 119) (tgt := 23) d_MD_gives_119 (by decide) ?_
            exact z_sub [1, 2, 3, 4, 0] rfl (h23 x2 x3 v6 D5)
          · refine z_iload (pc := 74) d_MD_gives_74 6 rfl ?_
            refine z_icmp_eq (pc := 76) (tgt := 116) d_MD_gives_76 (by decide) ?_ ?_
            · exact z_sub [0, 1, 2, 3, 4] rfl (h116 x2 x3 x4 D4)
            · refine z_jp (fun j96 : Int32 → Int32 → Int32 → Int32 → Int32 → Nat → Int32 → Int32 → zD → Option (zD) => ∀ (x2 : Int32) (x3 : Int32) (x4 : Int32) (x5 : Int32) (x6 : Int32) (s0 : Nat) (s1 : Int32) (s2 : Int32) (D7 : zD), zGO K Y_MD_gives 3 0 0 (zqV z) (j96 x2 x3 x4 x5 x6 s0 s1 s2 D7) 0 0 z D7 96 [(0, .ref r0), (1, .int x1), (2, .int x2), (3, .int x3), (4, .int x4), (5, .int x5), (6, .int x6)] [.int s2, .int s1, .ref s0]) (fun x2 x3 x4 x5 x6 s0 s1 s2 D7 => ?_) (fun j96 h96 => ?_)
              · refine z_jp (fun j111 : Int32 → Int32 → Int32 → Nat → Int32 → Int32 → Int32 → zD → Option (zD) => ∀ (x2 : Int32) (x3 : Int32) (x4 : Int32) (s0 : Nat) (s1 : Int32) (s2 : Int32) (s3 : Int32) (D8 : zD), zGO K Y_MD_gives 3 0 0 (zqV z) (j111 x2 x3 x4 s0 s1 s2 s3 D8) 0 0 z D8 111 [(0, .ref r0), (1, .int x1), (2, .int x2), (3, .int x3), (4, .int x4)] [.int s3, .int s2, .int s1, .ref s0]) (fun x2 x3 x4 s0 s1 s2 s3 D8 => ?_) (fun j111 h111 => ?_)
                · refine z_iload (pc := 111) d_MD_gives_111 4 rfl ?_
                  refine z_callSv (pc := 113) [.ref s0, .int s1, .int s2, .int s3, .int x4] lkS_MD_63 (c_MD_give z D8 s0 s1 s2 s3 x4) (by decide) rfl rfl (Nat.le_of_ble_eq_true rfl) d_MD_gives_113 (fun D9 => ?_)
                  exact z_sub [0, 1, 2, 3, 4] rfl (h116 x2 x3 x4 D9)
                · refine z_iload (pc := 96) d_MD_gives_96 5 rfl ?_
                  refine z_if_eq (pc := 98) (tgt := 105) d_MD_gives_98 (by decide) ?_ ?_
                  · refine z_iconst (pc := 105) d_MD_gives_105 ki_2 ?_
                    refine z_iload (pc := 106) d_MD_gives_106 6 rfl ?_
                    refine z_imul (pc := 108) d_MD_gives_108 ?_
                    refine z_iload_n (pc := 109) d_MD_gives_109 rfl 3 rfl ?_
                    refine z_isub (pc := 110) d_MD_gives_110 ?_
                    exact z_sub [0, 1, 2, 3, 4] rfl (h111 x2 x3 x4 s0 s1 s2 (((2 : Int32) * x6) - x3) D7)
                  · refine z_iload_n (pc := 101) d_MD_gives_101 rfl 3 rfl ?_
                    refine z_goto (pc := 102) (tgt := 111) d_MD_gives_102 (by decide) ?_
                    exact z_sub [0, 1, 2, 3, 4] rfl (h111 x2 x3 x4 s0 s1 s2 x3 D7)
              · refine z_aload_n (pc := 79) d_MD_gives_79 rfl 0 rfl ?_
                refine z_iload_n (pc := 80) d_MD_gives_80 rfl 1 rfl ?_
                refine z_iload (pc := 81) d_MD_gives_81 5 rfl ?_
                refine z_if_eq (pc := 83) (tgt := 95) d_MD_gives_83 (by decide) ?_ ?_
                · refine z_iload_n (pc := 95) d_MD_gives_95 rfl 2 rfl ?_
                  exact z_sub [0, 1, 2, 3, 4, 5, 6] rfl (h96 x2 x3 x4 x5 x6 r0 x1 x2 D4)
                · refine z_iconst (pc := 86) d_MD_gives_86 ki_2 ?_
                  refine z_iload (pc := 87) d_MD_gives_87 6 rfl ?_
                  refine z_imul (pc := 89) d_MD_gives_89 ?_
                  refine z_iload_n (pc := 90) d_MD_gives_90 rfl 2 rfl ?_
                  refine z_isub (pc := 91) d_MD_gives_91 ?_
                  refine z_goto (pc := 92) (tgt := 96) d_MD_gives_92 (by decide) ?_
                  exact z_sub [0, 1, 2, 3, 4, 5, 6] rfl (h96 x2 x3 x4 x5 x6 r0 x1 (((2 : Int32) * x6) - x2) D4)
        · refine z_istore (pc := 49) d_MD_gives_49 (by decide) (lv' := [(5, .int s0), (0, .ref r0), (1, .int x1), (2, .int x2), (3, .int x3), (4, .int x4)]) rfl ?_
          refine z_aload_n (pc := 51) d_MD_gives_51 rfl 1 rfl ?_
          refine z_bipush (pc := 52) d_MD_gives_52 kb_59 ?_
          refine z_iconst (pc := 54) d_MD_gives_54 ki_2 ?_
          refine z_iload (pc := 55) d_MD_gives_55 5 rfl ?_
          refine z_imul (pc := 57) d_MD_gives_57 ?_
          refine z_iadd (pc := 58) d_MD_gives_58 ?_
          refine z_iconst (pc := 59) d_MD_gives_59 ki_1 ?_
          refine z_iadd (pc := 60) d_MD_gives_60 ?_
          refine z_iaload (pc := 61) d_MD_gives_61 (fun v10 => ?_)
          refine z_istore (pc := 62) d_MD_gives_62 (by decide) (lv' := [(6, .int v10), (5, .int s0), (0, .ref r0), (1, .int x1), (2, .int x2), (3, .int x3), (4, .int x4)]) rfl ?_
          refine z_iload (pc := 64) d_MD_gives_64 1 rfl ?_
          refine z_if_eq (pc := 66) (tgt := 73) d_MD_gives_66 (by decide) ?_ ?_
          · refine z_iload_n (pc := 73) d_MD_gives_73 rfl 5 rfl ?_
            exact z_sub [2, 3, 4, 5, 6, 1, 0] rfl (h74 x2 x3 x4 s0 v10 x3 D3)
          · refine z_iload_n (pc := 69) d_MD_gives_69 rfl 4 rfl ?_
            refine z_goto (pc := 70) (tgt := 74) d_MD_gives_70 (by decide) ?_
            exact z_sub [2, 3, 4, 5, 6, 1, 0] rfl (h74 x2 x3 x4 s0 v10 x2 D3)
      · refine z_aload_n (pc := 31) d_MD_gives_31 rfl 0 rfl ?_
        refine z_bipush (pc := 32) d_MD_gives_32 kb_59 ?_
        refine z_iconst (pc := 34) d_MD_gives_34 ki_2 ?_
        refine z_iload (pc := 35) d_MD_gives_35 4 rfl ?_
        refine z_imul (pc := 37) d_MD_gives_37 ?_
        refine z_iadd (pc := 38) d_MD_gives_38 ?_
        refine z_iaload (pc := 39) d_MD_gives_39 (fun v11 => ?_)
        refine z_iconst (pc := 40) d_MD_gives_40 ki_1 ?_
        refine z_icmp_ne (pc := 41) (tgt := 48) d_MD_gives_41 (by decide) ?_ ?_
        · refine z_iconst (pc := 44) d_MD_gives_44 ki_1 ?_
          refine z_goto (pc := 45) (tgt := 49) d_MD_gives_45 (by decide) ?_
          exact z_sub [0, 1, 2, 3, 4] rfl (h49 x2 x3 x4 (1 : Int32) D1)
        · refine z_iconst (pc := 48) d_MD_gives_48 ki_0 ?_
          exact z_sub [0, 1, 2, 3, 4] rfl (h49 x2 x3 x4 (0 : Int32) D1)
  · refine z_aload_n (pc := 0) d_MD_gives_0 rfl 0 rfl ?_
    refine z_iload_n (pc := 1) d_MD_gives_1 rfl 1 rfl ?_
    refine z_callSi (pc := 2) [.ref r0, .int x1] lkS_MD_57 (c_MD_xOf z D r0 x1) (by decide) rfl rfl (Nat.le_of_ble_eq_true rfl) d_MD_gives_2 (fun v12 D13 => ?_)
    refine z_istore_n (pc := 5) d_MD_gives_5 rfl (by decide) (lv' := [(2, .int v12), (0, .ref r0), (1, .int x1)]) rfl ?_
    refine z_aload_n (pc := 6) d_MD_gives_6 rfl 1 rfl ?_
    refine z_iload_n (pc := 7) d_MD_gives_7 rfl 2 rfl ?_
    refine z_callSi (pc := 8) [.ref r0, .int x1] lkS_MD_60 (c_MD_yOf z D13 r0 x1) (by decide) rfl rfl (Nat.le_of_ble_eq_true rfl) d_MD_gives_8 (fun v14 D15 => ?_)
    refine z_istore_n (pc := 11) d_MD_gives_11 rfl (by decide) (lv' := [(3, .int v14), (2, .int v12), (0, .ref r0), (1, .int x1)]) rfl ?_
    refine z_aload_n (pc := 12) d_MD_gives_12 rfl 2 rfl ?_
    refine z_iload_n (pc := 13) d_MD_gives_13 rfl 3 rfl ?_
    refine z_iload_n (pc := 14) d_MD_gives_14 rfl 1 rfl ?_
    refine z_iload_n (pc := 15) d_MD_gives_15 rfl 0 rfl ?_
    refine z_iconst (pc := 16) d_MD_gives_16 ki_m1 ?_
    refine z_callSv (pc := 17) [.ref r0, .int x1, .int v12, .int v14, .int (-1 : Int32)] lkS_MD_63 (c_MD_give z D15 r0 x1 v12 v14 (-1 : Int32)) (by decide) rfl rfl (Nat.le_of_ble_eq_true rfl) d_MD_gives_17 (fun D16 => ?_)
    refine z_iconst (pc := 20) d_MD_gives_20 ki_0 ?_
    refine z_istore (pc := 21) d_MD_gives_21 (by decide) (lv' := [(4, .int (0 : Int32)), (3, .int v14), (2, .int v12), (0, .ref r0), (1, .int x1)]) rfl ?_
    exact z_sub [3, 4, 2, 1, 0] rfl (h23 v12 v14 (0 : Int32) D16)
theorem d_MD_isHeardNow_0 : decode Y_MD_isHeardNow.2.1 0 = .ok (.aload_n 0, 1) := by decide +kernel
theorem d_MD_isHeardNow_1 : decode Y_MD_isHeardNow.2.1 1 = .ok (.iload_n 1, 1) := by decide +kernel
theorem d_MD_isHeardNow_2 : decode Y_MD_isHeardNow.2.1 2 = .ok (.iconst (5), 1) := by decide +kernel
theorem d_MD_isHeardNow_3 : decode Y_MD_isHeardNow.2.1 3 = .ok (.invokestatic 67, 3) := by decide +kernel
theorem d_MD_isHeardNow_6 : decode Y_MD_isHeardNow.2.1 6 = .ok (.iload_n 2, 1) := by decide +kernel
theorem d_MD_isHeardNow_7 : decode Y_MD_isHeardNow.2.1 7 = .ok (.ishr, 1) := by decide +kernel
theorem d_MD_isHeardNow_8 : decode Y_MD_isHeardNow.2.1 8 = .ok (.iconst (1), 1) := by decide +kernel
theorem d_MD_isHeardNow_9 : decode Y_MD_isHeardNow.2.1 9 = .ok (.iand, 1) := by decide +kernel
theorem d_MD_isHeardNow_10 : decode Y_MD_isHeardNow.2.1 10 = .ok (.iconst (1), 1) := by decide +kernel
theorem d_MD_isHeardNow_11 : decode Y_MD_isHeardNow.2.1 11 = .ok (.if_icmp .ne (7), 3) := by decide +kernel
theorem d_MD_isHeardNow_14 : decode Y_MD_isHeardNow.2.1 14 = .ok (.iconst (1), 1) := by decide +kernel
theorem d_MD_isHeardNow_15 : decode Y_MD_isHeardNow.2.1 15 = .ok (.goto (4), 3) := by decide +kernel
theorem d_MD_isHeardNow_18 : decode Y_MD_isHeardNow.2.1 18 = .ok (.iconst (0), 1) := by decide +kernel
theorem d_MD_isHeardNow_19 : decode Y_MD_isHeardNow.2.1 19 = .ok (.istore_n 3, 1) := by decide +kernel
theorem d_MD_isHeardNow_20 : decode Y_MD_isHeardNow.2.1 20 = .ok (.iload_n 3, 1) := by decide +kernel
theorem d_MD_isHeardNow_21 : decode Y_MD_isHeardNow.2.1 21 = .ok (.ifCond .ne (35), 3) := by decide +kernel
theorem d_MD_isHeardNow_24 : decode Y_MD_isHeardNow.2.1 24 = .ok (.aload_n 0, 1) := by decide +kernel
theorem d_MD_isHeardNow_25 : decode Y_MD_isHeardNow.2.1 25 = .ok (.iload_n 1, 1) := by decide +kernel
theorem d_MD_isHeardNow_26 : decode Y_MD_isHeardNow.2.1 26 = .ok (.iload_n 2, 1) := by decide +kernel
theorem d_MD_isHeardNow_27 : decode Y_MD_isHeardNow.2.1 27 = .ok (.invokestatic 77, 3) := by decide +kernel
theorem d_MD_isHeardNow_30 : decode Y_MD_isHeardNow.2.1 30 = .ok (.ifCond .eq (26), 3) := by decide +kernel
theorem d_MD_isHeardNow_33 : decode Y_MD_isHeardNow.2.1 33 = .ok (.aload_n 0, 1) := by decide +kernel
theorem d_MD_isHeardNow_34 : decode Y_MD_isHeardNow.2.1 34 = .ok (.iload_n 1, 1) := by decide +kernel
theorem d_MD_isHeardNow_35 : decode Y_MD_isHeardNow.2.1 35 = .ok (.iconst (4), 1) := by decide +kernel
theorem d_MD_isHeardNow_36 : decode Y_MD_isHeardNow.2.1 36 = .ok (.invokestatic 67, 3) := by decide +kernel
theorem d_MD_isHeardNow_39 : decode Y_MD_isHeardNow.2.1 39 = .ok (.iconst (-1), 1) := by decide +kernel
theorem d_MD_isHeardNow_40 : decode Y_MD_isHeardNow.2.1 40 = .ok (.if_icmp .eq (12), 3) := by decide +kernel
theorem d_MD_isHeardNow_43 : decode Y_MD_isHeardNow.2.1 43 = .ok (.aload_n 0, 1) := by decide +kernel
theorem d_MD_isHeardNow_44 : decode Y_MD_isHeardNow.2.1 44 = .ok (.iload_n 1, 1) := by decide +kernel
theorem d_MD_isHeardNow_45 : decode Y_MD_isHeardNow.2.1 45 = .ok (.iload_n 2, 1) := by decide +kernel
theorem d_MD_isHeardNow_46 : decode Y_MD_isHeardNow.2.1 46 = .ok (.invokestatic 81, 3) := by decide +kernel
theorem d_MD_isHeardNow_49 : decode Y_MD_isHeardNow.2.1 49 = .ok (.ifCond .eq (7), 3) := by decide +kernel
theorem d_MD_isHeardNow_52 : decode Y_MD_isHeardNow.2.1 52 = .ok (.iconst (1), 1) := by decide +kernel
theorem d_MD_isHeardNow_53 : decode Y_MD_isHeardNow.2.1 53 = .ok (.goto (4), 3) := by decide +kernel
theorem d_MD_isHeardNow_56 : decode Y_MD_isHeardNow.2.1 56 = .ok (.iconst (0), 1) := by decide +kernel
theorem d_MD_isHeardNow_57 : decode Y_MD_isHeardNow.2.1 57 = .ok (.ireturn, 1) := by decide +kernel
def f_MD_isHeardNow (w : zW) (D : zD) (r0 : Nat) (x1 : Int32) (x2 : Int32) : Option (Int32 × zD) := zjp (fun (s0 : Int32) (D1 : zD) => zjp (fun (s0 : Int32) (D2 : zD) => zchk (s0 = 0 ∨ s0 = 1) (some (s0, D2))) (fun j57 => zjp (fun (D3 : zD) => j57 (0 : Int32) D3) (fun j56 => (if s0 = 0 then zci (f_MD_isReached w D1 r0 x1 x2) (fun v4 D5 => (if v4 = 0 then j56 D5 else zjp (fun (D6 : zD) => j57 (1 : Int32) D6) (fun j52 => zci (f_MD_pulseAt w D5 r0 x1 (4 : Int32)) (fun v7 D8 => (if v7 = (-1 : Int32) then j52 D8 else zci (f_MD_isOnSide w D8 r0 x1 x2) (fun v9 D10 => (if v9 = 0 then j56 D10 else j52 D10))))))) else j56 D1)))) (fun j19 => zci (f_MD_pulseAt w D r0 x1 (5 : Int32)) (fun v11 D12 => (if ((v11 >>> (x2 &&& 31)) &&& (1 : Int32)) = (1 : Int32) then j19 (1 : Int32) D12 else j19 (0 : Int32) D12)))
set_option maxHeartbeats 4000000 in
set_option maxRecDepth 100000 in
theorem c_MD_isHeardNow (z : zT) (D : zD) (r0 : Nat) (x1 : Int32) (x2 : Int32) : zM Y_MD_isHeardNow 3 0 0 (zqI z) (f_MD_isHeardNow z.2 D r0 x1 x2) [.ref r0, .int x1, .int x2] z D := by
  refine zM_of (plainFor_of_name (by decide +kernel)) rfl (Nat.le_of_ble_eq_true rfl) (fun _ _ _ _ h => nomatch h.1) (fun K => ?_)
  unfold f_MD_isHeardNow
  refine z_jp (fun j19 : Int32 → zD → Option (Int32 × zD) => ∀ (s0 : Int32) (D1 : zD), zGO K Y_MD_isHeardNow 3 0 0 (zqI z) (j19 s0 D1) 0 0 z D1 19 [(0, .ref r0), (1, .int x1), (2, .int x2)] [.int s0]) (fun s0 D1 => ?_) (fun j19 h19 => ?_)
  · refine z_jp (fun j57 : Int32 → zD → Option (Int32 × zD) => ∀ (s0 : Int32) (D2 : zD), zGO K Y_MD_isHeardNow 3 0 0 (zqI z) (j57 s0 D2) 0 0 z D2 57 [] [.int s0]) (fun s0 D2 => ?_) (fun j57 h57 => ?_)
    · exact z_zret (pc := 57) d_MD_isHeardNow_57 rfl
    · refine z_jp (fun j56 : zD → Option (Int32 × zD) => ∀ (D3 : zD), zGO K Y_MD_isHeardNow 3 0 0 (zqI z) (j56  D3) 0 0 z D3 56 [] []) (fun  D3 => ?_) (fun j56 h56 => ?_)
      · refine z_iconst (pc := 56) d_MD_isHeardNow_56 ki_0 ?_
        exact z_sub [] rfl (h57 (0 : Int32) D3)
      · refine z_istore_n (pc := 19) d_MD_isHeardNow_19 rfl (by decide) (lv' := [(3, .int s0), (0, .ref r0), (1, .int x1), (2, .int x2)]) rfl ?_
        refine z_iload_n (pc := 20) d_MD_isHeardNow_20 rfl 0 rfl ?_
        refine z_if_ne (pc := 21) (tgt := 56) d_MD_isHeardNow_21 (by decide) ?_ ?_
        · refine z_aload_n (pc := 24) d_MD_isHeardNow_24 rfl 1 rfl ?_
          refine z_iload_n (pc := 25) d_MD_isHeardNow_25 rfl 2 rfl ?_
          refine z_iload_n (pc := 26) d_MD_isHeardNow_26 rfl 3 rfl ?_
          refine z_callSi (pc := 27) [.ref r0, .int x1, .int x2] lkS_MD_77 (c_MD_isReached z D1 r0 x1 x2) (by decide) rfl rfl (Nat.le_of_ble_eq_true rfl) d_MD_isHeardNow_27 (fun v4 D5 => ?_)
          refine z_if_eq (pc := 30) (tgt := 56) d_MD_isHeardNow_30 (by decide) ?_ ?_
          · exact z_sub [] rfl (h56 D5)
          · refine z_jp (fun j52 : zD → Option (Int32 × zD) => ∀ (D6 : zD), zGO K Y_MD_isHeardNow 3 0 0 (zqI z) (j52  D6) 0 0 z D6 52 [] []) (fun  D6 => ?_) (fun j52 h52 => ?_)
            · refine z_iconst (pc := 52) d_MD_isHeardNow_52 ki_1 ?_
              refine z_goto (pc := 53) (tgt := 57) d_MD_isHeardNow_53 (by decide) ?_
              exact z_sub [] rfl (h57 (1 : Int32) D6)
            · refine z_aload_n (pc := 33) d_MD_isHeardNow_33 rfl 1 rfl ?_
              refine z_iload_n (pc := 34) d_MD_isHeardNow_34 rfl 2 rfl ?_
              refine z_iconst (pc := 35) d_MD_isHeardNow_35 ki_4 ?_
              refine z_callSi (pc := 36) [.ref r0, .int x1, .int (4 : Int32)] lkS_MD_67 (c_MD_pulseAt z D5 r0 x1 (4 : Int32)) (by decide) rfl rfl (Nat.le_of_ble_eq_true rfl) d_MD_isHeardNow_36 (fun v7 D8 => ?_)
              refine z_iconst (pc := 39) d_MD_isHeardNow_39 ki_m1 ?_
              refine z_icmp_eq (pc := 40) (tgt := 52) d_MD_isHeardNow_40 (by decide) ?_ ?_
              · exact z_sub [] rfl (h52 D8)
              · refine z_aload_n (pc := 43) d_MD_isHeardNow_43 rfl 1 rfl ?_
                refine z_iload_n (pc := 44) d_MD_isHeardNow_44 rfl 2 rfl ?_
                refine z_iload_n (pc := 45) d_MD_isHeardNow_45 rfl 3 rfl ?_
                refine z_callSi (pc := 46) [.ref r0, .int x1, .int x2] lkS_MD_81 (c_MD_isOnSide z D8 r0 x1 x2) (by decide) rfl rfl (Nat.le_of_ble_eq_true rfl) d_MD_isHeardNow_46 (fun v9 D10 => ?_)
                refine z_if_eq (pc := 49) (tgt := 56) d_MD_isHeardNow_49 (by decide) ?_ ?_
                · exact z_sub [] rfl (h56 D10)
                · exact z_sub [] rfl (h52 D10)
        · exact z_sub [] rfl (h56 D1)
  · refine z_aload_n (pc := 0) d_MD_isHeardNow_0 rfl 0 rfl ?_
    refine z_iload_n (pc := 1) d_MD_isHeardNow_1 rfl 1 rfl ?_
    refine z_iconst (pc := 2) d_MD_isHeardNow_2 ki_5 ?_
    refine z_callSi (pc := 3) [.ref r0, .int x1, .int (5 : Int32)] lkS_MD_67 (c_MD_pulseAt z D r0 x1 (5 : Int32)) (by decide) rfl rfl (Nat.le_of_ble_eq_true rfl) d_MD_isHeardNow_3 (fun v11 D12 => ?_)
    refine z_iload_n (pc := 6) d_MD_isHeardNow_6 rfl 2 rfl ?_
    refine z_ishr (pc := 7) d_MD_isHeardNow_7 ?_
    refine z_iconst (pc := 8) d_MD_isHeardNow_8 ki_1 ?_
    refine z_iand (pc := 9) d_MD_isHeardNow_9 ?_
    refine z_iconst (pc := 10) d_MD_isHeardNow_10 ki_1 ?_
    refine z_icmp_ne (pc := 11) (tgt := 18) d_MD_isHeardNow_11 (by decide) ?_ ?_
    · refine z_iconst (pc := 14) d_MD_isHeardNow_14 ki_1 ?_
      refine z_goto (pc := 15) (tgt := 19) d_MD_isHeardNow_15 (by decide) ?_
      exact z_sub [0, 1, 2] rfl (h19 (1 : Int32) D12)
    · refine z_iconst (pc := 18) d_MD_isHeardNow_18 ki_0 ?_
      exact z_sub [0, 1, 2] rfl (h19 (0 : Int32) D12)
theorem d_MD_readSiren_0 : decode Y_MD_readSiren.2.1 0 = .ok (.aload_n 0, 1) := by decide +kernel
theorem d_MD_readSiren_1 : decode Y_MD_readSiren.2.1 1 = .ok (.iconst (0), 1) := by decide +kernel
theorem d_MD_readSiren_2 : decode Y_MD_readSiren.2.1 2 = .ok (.iconst (2), 1) := by decide +kernel
theorem d_MD_readSiren_3 : decode Y_MD_readSiren.2.1 3 = .ok (.bipush (10), 2) := by decide +kernel
theorem d_MD_readSiren_5 : decode Y_MD_readSiren.2.1 5 = .ok (.bipush (70), 2) := by decide +kernel
theorem d_MD_readSiren_7 : decode Y_MD_readSiren.2.1 7 = .ok (.invokevirtual 137, 3) := by decide +kernel
theorem d_MD_readSiren_10 : decode Y_MD_readSiren.2.1 10 = .ok (.istore_n 2, 1) := by decide +kernel
theorem d_MD_readSiren_11 : decode Y_MD_readSiren.2.1 11 = .ok (.aload_n 0, 1) := by decide +kernel
theorem d_MD_readSiren_12 : decode Y_MD_readSiren.2.1 12 = .ok (.iload_n 2, 1) := by decide +kernel
theorem d_MD_readSiren_13 : decode Y_MD_readSiren.2.1 13 = .ok (.iconst (2), 1) := by decide +kernel
theorem d_MD_readSiren_14 : decode Y_MD_readSiren.2.1 14 = .ok (.bipush (10), 2) := by decide +kernel
theorem d_MD_readSiren_16 : decode Y_MD_readSiren.2.1 16 = .ok (.bipush (70), 2) := by decide +kernel
theorem d_MD_readSiren_18 : decode Y_MD_readSiren.2.1 18 = .ok (.invokevirtual 137, 3) := by decide +kernel
theorem d_MD_readSiren_21 : decode Y_MD_readSiren.2.1 21 = .ok (.istore_n 3, 1) := by decide +kernel
theorem d_MD_readSiren_22 : decode Y_MD_readSiren.2.1 22 = .ok (.aload_n 0, 1) := by decide +kernel
theorem d_MD_readSiren_23 : decode Y_MD_readSiren.2.1 23 = .ok (.iload_n 3, 1) := by decide +kernel
theorem d_MD_readSiren_24 : decode Y_MD_readSiren.2.1 24 = .ok (.iconst (1), 1) := by decide +kernel
theorem d_MD_readSiren_25 : decode Y_MD_readSiren.2.1 25 = .ok (.iconst (1), 1) := by decide +kernel
theorem d_MD_readSiren_26 : decode Y_MD_readSiren.2.1 26 = .ok (.iconst (5), 1) := by decide +kernel
theorem d_MD_readSiren_27 : decode Y_MD_readSiren.2.1 27 = .ok (.invokevirtual 137, 3) := by decide +kernel
theorem d_MD_readSiren_30 : decode Y_MD_readSiren.2.1 30 = .ok (.istore 4, 2) := by decide +kernel
theorem d_MD_readSiren_32 : decode Y_MD_readSiren.2.1 32 = .ok (.aload_n 0, 1) := by decide +kernel
theorem d_MD_readSiren_33 : decode Y_MD_readSiren.2.1 33 = .ok (.iload 4, 2) := by decide +kernel
theorem d_MD_readSiren_35 : decode Y_MD_readSiren.2.1 35 = .ok (.iconst (1), 1) := by decide +kernel
theorem d_MD_readSiren_36 : decode Y_MD_readSiren.2.1 36 = .ok (.iconst (0), 1) := by decide +kernel
theorem d_MD_readSiren_37 : decode Y_MD_readSiren.2.1 37 = .ok (.bipush (6), 2) := by decide +kernel
theorem d_MD_readSiren_39 : decode Y_MD_readSiren.2.1 39 = .ok (.invokevirtual 137, 3) := by decide +kernel
theorem d_MD_readSiren_42 : decode Y_MD_readSiren.2.1 42 = .ok (.istore 5, 2) := by decide +kernel
theorem d_MD_readSiren_44 : decode Y_MD_readSiren.2.1 44 = .ok (.aload_n 0, 1) := by decide +kernel
theorem d_MD_readSiren_45 : decode Y_MD_readSiren.2.1 45 = .ok (.iload 5, 2) := by decide +kernel
theorem d_MD_readSiren_47 : decode Y_MD_readSiren.2.1 47 = .ok (.iconst (2), 1) := by decide +kernel
theorem d_MD_readSiren_48 : decode Y_MD_readSiren.2.1 48 = .ok (.iconst (1), 1) := by decide +kernel
theorem d_MD_readSiren_49 : decode Y_MD_readSiren.2.1 49 = .ok (.bipush (20), 2) := by decide +kernel
theorem d_MD_readSiren_51 : decode Y_MD_readSiren.2.1 51 = .ok (.invokevirtual 137, 3) := by decide +kernel
theorem d_MD_readSiren_54 : decode Y_MD_readSiren.2.1 54 = .ok (.istore 6, 2) := by decide +kernel
theorem d_MD_readSiren_56 : decode Y_MD_readSiren.2.1 56 = .ok (.iload 6, 2) := by decide +kernel
theorem d_MD_readSiren_58 : decode Y_MD_readSiren.2.1 58 = .ok (.iconst (-1), 1) := by decide +kernel
theorem d_MD_readSiren_59 : decode Y_MD_readSiren.2.1 59 = .ok (.if_icmp .eq (49), 3) := by decide +kernel
theorem d_MD_readSiren_62 : decode Y_MD_readSiren.2.1 62 = .ok (.aload_n 0, 1) := by decide +kernel
theorem d_MD_readSiren_63 : decode Y_MD_readSiren.2.1 63 = .ok (.aload_n 1, 1) := by decide +kernel
theorem d_MD_readSiren_64 : decode Y_MD_readSiren.2.1 64 = .ok (.iconst (0), 1) := by decide +kernel
theorem d_MD_readSiren_65 : decode Y_MD_readSiren.2.1 65 = .ok (.iaload, 1) := by decide +kernel
theorem d_MD_readSiren_66 : decode Y_MD_readSiren.2.1 66 = .ok (.iconst (4), 1) := by decide +kernel
theorem d_MD_readSiren_67 : decode Y_MD_readSiren.2.1 67 = .ok (.if_icmp .ge (30), 3) := by decide +kernel
theorem d_MD_readSiren_70 : decode Y_MD_readSiren.2.1 70 = .ok (.aload_n 1, 1) := by decide +kernel
theorem d_MD_readSiren_71 : decode Y_MD_readSiren.2.1 71 = .ok (.iload_n 2, 1) := by decide +kernel
theorem d_MD_readSiren_72 : decode Y_MD_readSiren.2.1 72 = .ok (.bipush (40), 2) := by decide +kernel
theorem d_MD_readSiren_74 : decode Y_MD_readSiren.2.1 74 = .ok (.isub, 1) := by decide +kernel
theorem d_MD_readSiren_75 : decode Y_MD_readSiren.2.1 75 = .ok (.iload_n 3, 1) := by decide +kernel
theorem d_MD_readSiren_76 : decode Y_MD_readSiren.2.1 76 = .ok (.bipush (40), 2) := by decide +kernel
theorem d_MD_readSiren_78 : decode Y_MD_readSiren.2.1 78 = .ok (.isub, 1) := by decide +kernel
theorem d_MD_readSiren_79 : decode Y_MD_readSiren.2.1 79 = .ok (.iload 4, 2) := by decide +kernel
theorem d_MD_readSiren_81 : decode Y_MD_readSiren.2.1 81 = .ok (.iload 5, 2) := by decide +kernel
theorem d_MD_readSiren_83 : decode Y_MD_readSiren.2.1 83 = .ok (.iconst (3), 1) := by decide +kernel
theorem d_MD_readSiren_84 : decode Y_MD_readSiren.2.1 84 = .ok (.isub, 1) := by decide +kernel
theorem d_MD_readSiren_85 : decode Y_MD_readSiren.2.1 85 = .ok (.iload 6, 2) := by decide +kernel
theorem d_MD_readSiren_87 : decode Y_MD_readSiren.2.1 87 = .ok (.invokestatic 141, 3) := by decide +kernel
theorem d_MD_readSiren_90 : decode Y_MD_readSiren.2.1 90 = .ok (.ifCond .lt (7), 3) := by decide +kernel
theorem d_MD_readSiren_93 : decode Y_MD_readSiren.2.1 93 = .ok (.iconst (1), 1) := by decide +kernel
theorem d_MD_readSiren_94 : decode Y_MD_readSiren.2.1 94 = .ok (.goto (4), 3) := by decide +kernel
theorem d_MD_readSiren_97 : decode Y_MD_readSiren.2.1 97 = .ok (.iconst (0), 1) := by decide +kernel
theorem d_MD_readSiren_98 : decode Y_MD_readSiren.2.1 98 = .ok (.invokevirtual 145, 3) := by decide +kernel
theorem d_MD_readSiren_101 : decode Y_MD_readSiren.2.1 101 = .ok (.ifCond .eq (7), 3) := by decide +kernel
theorem d_MD_readSiren_104 : decode Y_MD_readSiren.2.1 104 = .ok (.iconst (1), 1) := by decide +kernel
theorem d_MD_readSiren_105 : decode Y_MD_readSiren.2.1 105 = .ok (.goto (4), 3) := by decide +kernel
theorem d_MD_readSiren_108 : decode Y_MD_readSiren.2.1 108 = .ok (.iconst (0), 1) := by decide +kernel
theorem d_MD_readSiren_109 : decode Y_MD_readSiren.2.1 109 = .ok (.ireturn, 1) := by decide +kernel
def f_MD_readSiren (w : zW) (D : zD) (a : Nat) (r1 : Nat) : Option (Int32 × zD) := zjp (fun (s0 : Int32) (D1 : zD) => zchk (s0 = 0 ∨ s0 = 1) (some (s0, D1))) (fun j109 => zjp (fun (D2 : zD) => j109 (0 : Int32) D2) (fun j108 => zobj w 8 a (zci (f_MD_figures w D a (0 : Int32) (2 : Int32) (10 : Int32) (70 : Int32)) (fun v3 D4 => zobj w 8 a (zci (f_MD_figures w D4 a v3 (2 : Int32) (10 : Int32) (70 : Int32)) (fun v5 D6 => zobj w 8 a (zci (f_MD_figures w D6 a v5 (1 : Int32) (1 : Int32) (5 : Int32)) (fun v7 D8 => zobj w 8 a (zci (f_MD_figures w D8 a v7 (1 : Int32) (0 : Int32) (6 : Int32)) (fun v9 D10 => zobj w 8 a (zci (f_MD_figures w D10 a v9 (2 : Int32) (1 : Int32) (20 : Int32)) (fun v11 D12 => (if v11 = (-1 : Int32) then j108 D12 else zjp (fun (s0 : Nat) (s1 : Int32) (D13 : zD) => zobj w 8 s0 (zci (f_MD_done w D13 s0 s1) (fun v14 D15 => (if v14 = 0 then j108 D15 else j109 (1 : Int32) D15)))) (fun j98 => zjp (fun (s0 : Nat) (D16 : zD) => j98 s0 (0 : Int32) D16) (fun j97 => zald w D12 0 r1 (0 : Int32) (fun v17 => (if (4 : Int32) ≤ v17 then j97 a D12 else zci (f_MD_sirenOn w D12 r1 (v3 - (40 : Int32)) (v5 - (40 : Int32)) v7 (v9 - (3 : Int32)) v11) (fun v18 D19 => (if v18 < 0 then j97 a D19 else j98 a (1 : Int32) D19)))))))))))))))))))
set_option maxHeartbeats 4000000 in
set_option maxRecDepth 100000 in
theorem c_MD_readSiren (z : zT) (D : zD) (a : Nat) (r1 : Nat) : zM Y_MD_readSiren 3 0 0 (zqI z) (f_MD_readSiren z.2 D a r1) [.ref a, .ref r1] z D := by
  refine zM_of (plainFor_of_name (by decide +kernel)) rfl (Nat.le_of_ble_eq_true rfl) (fun _ _ _ _ h => nomatch h.1) (fun K => ?_)
  unfold f_MD_readSiren
  refine z_jp (fun j109 : Int32 → zD → Option (Int32 × zD) => ∀ (s0 : Int32) (D1 : zD), zGO K Y_MD_readSiren 3 0 0 (zqI z) (j109 s0 D1) 0 0 z D1 109 [] [.int s0]) (fun s0 D1 => ?_) (fun j109 h109 => ?_)
  · exact z_zret (pc := 109) d_MD_readSiren_109 rfl
  · refine z_jp (fun j108 : zD → Option (Int32 × zD) => ∀ (D2 : zD), zGO K Y_MD_readSiren 3 0 0 (zqI z) (j108  D2) 0 0 z D2 108 [] []) (fun  D2 => ?_) (fun j108 h108 => ?_)
    · refine z_iconst (pc := 108) d_MD_readSiren_108 ki_0 ?_
      exact z_sub [] rfl (h109 (0 : Int32) D2)
    · refine z_aload_n (pc := 0) d_MD_readSiren_0 rfl 0 rfl ?_
      refine z_iconst (pc := 1) d_MD_readSiren_1 ki_0 ?_
      refine z_iconst (pc := 2) d_MD_readSiren_2 ki_2 ?_
      refine z_bipush (pc := 3) d_MD_readSiren_3 kb_10 ?_
      refine z_bipush (pc := 5) d_MD_readSiren_5 kb_70 ?_
      refine z_callVi (pc := 7) [.int (0 : Int32), .int (2 : Int32), .int (10 : Int32), .int (70 : Int32)] lkV_MD_137 rfl (c_MD_figures z D a (0 : Int32) (2 : Int32) (10 : Int32) (70 : Int32)) (by decide) rfl rfl (Nat.le_of_ble_eq_true rfl) d_MD_readSiren_7 (fun v3 D4 => ?_)
      refine z_istore_n (pc := 10) d_MD_readSiren_10 rfl (by decide) (lv' := [(2, .int v3), (0, .ref a), (1, .ref r1)]) rfl ?_
      refine z_aload_n (pc := 11) d_MD_readSiren_11 rfl 1 rfl ?_
      refine z_iload_n (pc := 12) d_MD_readSiren_12 rfl 0 rfl ?_
      refine z_iconst (pc := 13) d_MD_readSiren_13 ki_2 ?_
      refine z_bipush (pc := 14) d_MD_readSiren_14 kb_10 ?_
      refine z_bipush (pc := 16) d_MD_readSiren_16 kb_70 ?_
      refine z_callVi (pc := 18) [.int v3, .int (2 : Int32), .int (10 : Int32), .int (70 : Int32)] lkV_MD_137 rfl (c_MD_figures z D4 a v3 (2 : Int32) (10 : Int32) (70 : Int32)) (by decide) rfl rfl (Nat.le_of_ble_eq_true rfl) d_MD_readSiren_18 (fun v5 D6 => ?_)
      refine z_istore_n (pc := 21) d_MD_readSiren_21 rfl (by decide) (lv' := [(3, .int v5), (2, .int v3), (0, .ref a), (1, .ref r1)]) rfl ?_
      refine z_aload_n (pc := 22) d_MD_readSiren_22 rfl 2 rfl ?_
      refine z_iload_n (pc := 23) d_MD_readSiren_23 rfl 0 rfl ?_
      refine z_iconst (pc := 24) d_MD_readSiren_24 ki_1 ?_
      refine z_iconst (pc := 25) d_MD_readSiren_25 ki_1 ?_
      refine z_iconst (pc := 26) d_MD_readSiren_26 ki_5 ?_
      refine z_callVi (pc := 27) [.int v5, .int (1 : Int32), .int (1 : Int32), .int (5 : Int32)] lkV_MD_137 rfl (c_MD_figures z D6 a v5 (1 : Int32) (1 : Int32) (5 : Int32)) (by decide) rfl rfl (Nat.le_of_ble_eq_true rfl) d_MD_readSiren_27 (fun v7 D8 => ?_)
      refine z_istore (pc := 30) d_MD_readSiren_30 (by decide) (lv' := [(4, .int v7), (3, .int v5), (2, .int v3), (0, .ref a), (1, .ref r1)]) rfl ?_
      refine z_aload_n (pc := 32) d_MD_readSiren_32 rfl 3 rfl ?_
      refine z_iload (pc := 33) d_MD_readSiren_33 0 rfl ?_
      refine z_iconst (pc := 35) d_MD_readSiren_35 ki_1 ?_
      refine z_iconst (pc := 36) d_MD_readSiren_36 ki_0 ?_
      refine z_bipush (pc := 37) d_MD_readSiren_37 kb_6 ?_
      refine z_callVi (pc := 39) [.int v7, .int (1 : Int32), .int (0 : Int32), .int (6 : Int32)] lkV_MD_137 rfl (c_MD_figures z D8 a v7 (1 : Int32) (0 : Int32) (6 : Int32)) (by decide) rfl rfl (Nat.le_of_ble_eq_true rfl) d_MD_readSiren_39 (fun v9 D10 => ?_)
      refine z_istore (pc := 42) d_MD_readSiren_42 (by decide) (lv' := [(5, .int v9), (4, .int v7), (3, .int v5), (2, .int v3), (0, .ref a), (1, .ref r1)]) rfl ?_
      refine z_aload_n (pc := 44) d_MD_readSiren_44 rfl 4 rfl ?_
      refine z_iload (pc := 45) d_MD_readSiren_45 0 rfl ?_
      refine z_iconst (pc := 47) d_MD_readSiren_47 ki_2 ?_
      refine z_iconst (pc := 48) d_MD_readSiren_48 ki_1 ?_
      refine z_bipush (pc := 49) d_MD_readSiren_49 kb_20 ?_
      refine z_callVi (pc := 51) [.int v9, .int (2 : Int32), .int (1 : Int32), .int (20 : Int32)] lkV_MD_137 rfl (c_MD_figures z D10 a v9 (2 : Int32) (1 : Int32) (20 : Int32)) (by decide) rfl rfl (Nat.le_of_ble_eq_true rfl) d_MD_readSiren_51 (fun v11 D12 => ?_)
      refine z_istore (pc := 54) d_MD_readSiren_54 (by decide) (lv' := [(6, .int v11), (5, .int v9), (4, .int v7), (3, .int v5), (2, .int v3), (0, .ref a), (1, .ref r1)]) rfl ?_
      refine z_iload (pc := 56) d_MD_readSiren_56 0 rfl ?_
      refine z_iconst (pc := 58) d_MD_readSiren_58 ki_m1 ?_
      refine z_icmp_eq (pc := 59) (tgt := 108) d_MD_readSiren_59 (by decide) ?_ ?_
      · exact z_sub [] rfl (h108 D12)
      · refine z_jp (fun j98 : Nat → Int32 → zD → Option (Int32 × zD) => ∀ (s0 : Nat) (s1 : Int32) (D13 : zD), zGO K Y_MD_readSiren 3 0 0 (zqI z) (j98 s0 s1 D13) 0 0 z D13 98 [] [.int s1, .ref s0]) (fun s0 s1 D13 => ?_) (fun j98 h98 => ?_)
        · refine z_callVi (pc := 98) [.int s1] lkV_MD_145 rfl (c_MD_done z D13 s0 s1) (by decide) rfl rfl (Nat.le_of_ble_eq_true rfl) d_MD_readSiren_98 (fun v14 D15 => ?_)
          refine z_if_eq (pc := 101) (tgt := 108) d_MD_readSiren_101 (by decide) ?_ ?_
          · exact z_sub [] rfl (h108 D15)
          · refine z_iconst (pc := 104) d_MD_readSiren_104 ki_1 ?_
            refine z_goto (pc := 105) (tgt := 109) d_MD_readSiren_105 (by decide) ?_
            exact z_sub [] rfl (h109 (1 : Int32) D15)
        · refine z_jp (fun j97 : Nat → zD → Option (Int32 × zD) => ∀ (s0 : Nat) (D16 : zD), zGO K Y_MD_readSiren 3 0 0 (zqI z) (j97 s0 D16) 0 0 z D16 97 [] [.ref s0]) (fun s0 D16 => ?_) (fun j97 h97 => ?_)
          · refine z_iconst (pc := 97) d_MD_readSiren_97 ki_0 ?_
            exact z_sub [] rfl (h98 s0 (0 : Int32) D16)
          · refine z_aload_n (pc := 62) d_MD_readSiren_62 rfl 5 rfl ?_
            refine z_aload_n (pc := 63) d_MD_readSiren_63 rfl 6 rfl ?_
            refine z_iconst (pc := 64) d_MD_readSiren_64 ki_0 ?_
            refine z_iaload (pc := 65) d_MD_readSiren_65 (fun v17 => ?_)
            refine z_iconst (pc := 66) d_MD_readSiren_66 ki_4 ?_
            refine z_icmp_ge (pc := 67) (tgt := 97) d_MD_readSiren_67 (by decide) ?_ ?_
            · exact z_sub [] rfl (h97 a D12)
            · refine z_aload_n (pc := 70) d_MD_readSiren_70 rfl 6 rfl ?_
              refine z_iload_n (pc := 71) d_MD_readSiren_71 rfl 4 rfl ?_
              refine z_bipush (pc := 72) d_MD_readSiren_72 kb_40 ?_
              refine z_isub (pc := 74) d_MD_readSiren_74 ?_
              refine z_iload_n (pc := 75) d_MD_readSiren_75 rfl 3 rfl ?_
              refine z_bipush (pc := 76) d_MD_readSiren_76 kb_40 ?_
              refine z_isub (pc := 78) d_MD_readSiren_78 ?_
              refine z_iload (pc := 79) d_MD_readSiren_79 2 rfl ?_
              refine z_iload (pc := 81) d_MD_readSiren_81 1 rfl ?_
              refine z_iconst (pc := 83) d_MD_readSiren_83 ki_3 ?_
              refine z_isub (pc := 84) d_MD_readSiren_84 ?_
              refine z_iload (pc := 85) d_MD_readSiren_85 0 rfl ?_
              refine z_callSi (pc := 87) [.ref r1, .int (v3 - (40 : Int32)), .int (v5 - (40 : Int32)), .int v7, .int (v9 - (3 : Int32)), .int v11] lkS_MD_141 (c_MD_sirenOn z D12 r1 (v3 - (40 : Int32)) (v5 - (40 : Int32)) v7 (v9 - (3 : Int32)) v11) (by decide) rfl rfl (Nat.le_of_ble_eq_true rfl) d_MD_readSiren_87 (fun v18 D19 => ?_)
              refine z_if_lt (pc := 90) (tgt := 97) d_MD_readSiren_90 (by decide) ?_ ?_
              · exact z_sub [] rfl (h97 a D19)
              · refine z_iconst (pc := 93) d_MD_readSiren_93 ki_1 ?_
                refine z_goto (pc := 94) (tgt := 98) d_MD_readSiren_94 (by decide) ?_
                exact z_sub [] rfl (h98 a (1 : Int32) D19)
theorem d_MD_readHearer_0 : decode Y_MD_readHearer.2.1 0 = .ok (.aload_n 0, 1) := by decide +kernel
theorem d_MD_readHearer_1 : decode Y_MD_readHearer.2.1 1 = .ok (.iconst (0), 1) := by decide +kernel
theorem d_MD_readHearer_2 : decode Y_MD_readHearer.2.1 2 = .ok (.iconst (2), 1) := by decide +kernel
theorem d_MD_readHearer_3 : decode Y_MD_readHearer.2.1 3 = .ok (.iconst (0), 1) := by decide +kernel
theorem d_MD_readHearer_4 : decode Y_MD_readHearer.2.1 4 = .ok (.bipush (80), 2) := by decide +kernel
theorem d_MD_readHearer_6 : decode Y_MD_readHearer.2.1 6 = .ok (.invokevirtual 137, 3) := by decide +kernel
theorem d_MD_readHearer_9 : decode Y_MD_readHearer.2.1 9 = .ok (.istore_n 2, 1) := by decide +kernel
theorem d_MD_readHearer_10 : decode Y_MD_readHearer.2.1 10 = .ok (.aload_n 0, 1) := by decide +kernel
theorem d_MD_readHearer_11 : decode Y_MD_readHearer.2.1 11 = .ok (.iload_n 2, 1) := by decide +kernel
theorem d_MD_readHearer_12 : decode Y_MD_readHearer.2.1 12 = .ok (.iconst (2), 1) := by decide +kernel
theorem d_MD_readHearer_13 : decode Y_MD_readHearer.2.1 13 = .ok (.iconst (0), 1) := by decide +kernel
theorem d_MD_readHearer_14 : decode Y_MD_readHearer.2.1 14 = .ok (.bipush (80), 2) := by decide +kernel
theorem d_MD_readHearer_16 : decode Y_MD_readHearer.2.1 16 = .ok (.invokevirtual 137, 3) := by decide +kernel
theorem d_MD_readHearer_19 : decode Y_MD_readHearer.2.1 19 = .ok (.istore_n 3, 1) := by decide +kernel
theorem d_MD_readHearer_20 : decode Y_MD_readHearer.2.1 20 = .ok (.aload_n 0, 1) := by decide +kernel
theorem d_MD_readHearer_21 : decode Y_MD_readHearer.2.1 21 = .ok (.iload_n 3, 1) := by decide +kernel
theorem d_MD_readHearer_22 : decode Y_MD_readHearer.2.1 22 = .ok (.iconst (1), 1) := by decide +kernel
theorem d_MD_readHearer_23 : decode Y_MD_readHearer.2.1 23 = .ok (.iconst (0), 1) := by decide +kernel
theorem d_MD_readHearer_24 : decode Y_MD_readHearer.2.1 24 = .ok (.iconst (4), 1) := by decide +kernel
theorem d_MD_readHearer_25 : decode Y_MD_readHearer.2.1 25 = .ok (.invokevirtual 137, 3) := by decide +kernel
theorem d_MD_readHearer_28 : decode Y_MD_readHearer.2.1 28 = .ok (.istore 4, 2) := by decide +kernel
theorem d_MD_readHearer_30 : decode Y_MD_readHearer.2.1 30 = .ok (.aload_n 0, 1) := by decide +kernel
theorem d_MD_readHearer_31 : decode Y_MD_readHearer.2.1 31 = .ok (.iload 4, 2) := by decide +kernel
theorem d_MD_readHearer_33 : decode Y_MD_readHearer.2.1 33 = .ok (.iconst (1), 1) := by decide +kernel
theorem d_MD_readHearer_34 : decode Y_MD_readHearer.2.1 34 = .ok (.iconst (0), 1) := by decide +kernel
theorem d_MD_readHearer_35 : decode Y_MD_readHearer.2.1 35 = .ok (.iconst (4), 1) := by decide +kernel
theorem d_MD_readHearer_36 : decode Y_MD_readHearer.2.1 36 = .ok (.invokevirtual 137, 3) := by decide +kernel
theorem d_MD_readHearer_39 : decode Y_MD_readHearer.2.1 39 = .ok (.istore 5, 2) := by decide +kernel
theorem d_MD_readHearer_41 : decode Y_MD_readHearer.2.1 41 = .ok (.iload 5, 2) := by decide +kernel
theorem d_MD_readHearer_43 : decode Y_MD_readHearer.2.1 43 = .ok (.iconst (-1), 1) := by decide +kernel
theorem d_MD_readHearer_44 : decode Y_MD_readHearer.2.1 44 = .ok (.if_icmp .eq (49), 3) := by decide +kernel
theorem d_MD_readHearer_47 : decode Y_MD_readHearer.2.1 47 = .ok (.aload_n 0, 1) := by decide +kernel
theorem d_MD_readHearer_48 : decode Y_MD_readHearer.2.1 48 = .ok (.aload_n 1, 1) := by decide +kernel
theorem d_MD_readHearer_49 : decode Y_MD_readHearer.2.1 49 = .ok (.iconst (1), 1) := by decide +kernel
theorem d_MD_readHearer_50 : decode Y_MD_readHearer.2.1 50 = .ok (.iaload, 1) := by decide +kernel
theorem d_MD_readHearer_51 : decode Y_MD_readHearer.2.1 51 = .ok (.iconst (4), 1) := by decide +kernel
theorem d_MD_readHearer_52 : decode Y_MD_readHearer.2.1 52 = .ok (.if_icmp .ge (30), 3) := by decide +kernel
theorem d_MD_readHearer_55 : decode Y_MD_readHearer.2.1 55 = .ok (.aload_n 1, 1) := by decide +kernel
theorem d_MD_readHearer_56 : decode Y_MD_readHearer.2.1 56 = .ok (.iload_n 2, 1) := by decide +kernel
theorem d_MD_readHearer_57 : decode Y_MD_readHearer.2.1 57 = .ok (.bipush (40), 2) := by decide +kernel
theorem d_MD_readHearer_59 : decode Y_MD_readHearer.2.1 59 = .ok (.isub, 1) := by decide +kernel
theorem d_MD_readHearer_60 : decode Y_MD_readHearer.2.1 60 = .ok (.iload_n 3, 1) := by decide +kernel
theorem d_MD_readHearer_61 : decode Y_MD_readHearer.2.1 61 = .ok (.bipush (40), 2) := by decide +kernel
theorem d_MD_readHearer_63 : decode Y_MD_readHearer.2.1 63 = .ok (.isub, 1) := by decide +kernel
theorem d_MD_readHearer_64 : decode Y_MD_readHearer.2.1 64 = .ok (.iload 4, 2) := by decide +kernel
theorem d_MD_readHearer_66 : decode Y_MD_readHearer.2.1 66 = .ok (.iconst (2), 1) := by decide +kernel
theorem d_MD_readHearer_67 : decode Y_MD_readHearer.2.1 67 = .ok (.isub, 1) := by decide +kernel
theorem d_MD_readHearer_68 : decode Y_MD_readHearer.2.1 68 = .ok (.iload 5, 2) := by decide +kernel
theorem d_MD_readHearer_70 : decode Y_MD_readHearer.2.1 70 = .ok (.iconst (2), 1) := by decide +kernel
theorem d_MD_readHearer_71 : decode Y_MD_readHearer.2.1 71 = .ok (.isub, 1) := by decide +kernel
theorem d_MD_readHearer_72 : decode Y_MD_readHearer.2.1 72 = .ok (.invokestatic 149, 3) := by decide +kernel
theorem d_MD_readHearer_75 : decode Y_MD_readHearer.2.1 75 = .ok (.ifCond .lt (7), 3) := by decide +kernel
theorem d_MD_readHearer_78 : decode Y_MD_readHearer.2.1 78 = .ok (.iconst (1), 1) := by decide +kernel
theorem d_MD_readHearer_79 : decode Y_MD_readHearer.2.1 79 = .ok (.goto (4), 3) := by decide +kernel
theorem d_MD_readHearer_82 : decode Y_MD_readHearer.2.1 82 = .ok (.iconst (0), 1) := by decide +kernel
theorem d_MD_readHearer_83 : decode Y_MD_readHearer.2.1 83 = .ok (.invokevirtual 145, 3) := by decide +kernel
theorem d_MD_readHearer_86 : decode Y_MD_readHearer.2.1 86 = .ok (.ifCond .eq (7), 3) := by decide +kernel
theorem d_MD_readHearer_89 : decode Y_MD_readHearer.2.1 89 = .ok (.iconst (1), 1) := by decide +kernel
theorem d_MD_readHearer_90 : decode Y_MD_readHearer.2.1 90 = .ok (.goto (4), 3) := by decide +kernel
theorem d_MD_readHearer_93 : decode Y_MD_readHearer.2.1 93 = .ok (.iconst (0), 1) := by decide +kernel
theorem d_MD_readHearer_94 : decode Y_MD_readHearer.2.1 94 = .ok (.ireturn, 1) := by decide +kernel
def f_MD_readHearer (w : zW) (D : zD) (a : Nat) (r1 : Nat) : Option (Int32 × zD) := zjp (fun (s0 : Int32) (D1 : zD) => zchk (s0 = 0 ∨ s0 = 1) (some (s0, D1))) (fun j94 => zjp (fun (D2 : zD) => j94 (0 : Int32) D2) (fun j93 => zobj w 8 a (zci (f_MD_figures w D a (0 : Int32) (2 : Int32) (0 : Int32) (80 : Int32)) (fun v3 D4 => zobj w 8 a (zci (f_MD_figures w D4 a v3 (2 : Int32) (0 : Int32) (80 : Int32)) (fun v5 D6 => zobj w 8 a (zci (f_MD_figures w D6 a v5 (1 : Int32) (0 : Int32) (4 : Int32)) (fun v7 D8 => zobj w 8 a (zci (f_MD_figures w D8 a v7 (1 : Int32) (0 : Int32) (4 : Int32)) (fun v9 D10 => (if v9 = (-1 : Int32) then j93 D10 else zjp (fun (s0 : Nat) (s1 : Int32) (D11 : zD) => zobj w 8 s0 (zci (f_MD_done w D11 s0 s1) (fun v12 D13 => (if v12 = 0 then j93 D13 else j94 (1 : Int32) D13)))) (fun j83 => zjp (fun (s0 : Nat) (D14 : zD) => j83 s0 (0 : Int32) D14) (fun j82 => zald w D10 0 r1 (1 : Int32) (fun v15 => (if (4 : Int32) ≤ v15 then j82 a D10 else zci (f_MD_hearerOn w D10 r1 (v3 - (40 : Int32)) (v5 - (40 : Int32)) (v7 - (2 : Int32)) (v9 - (2 : Int32))) (fun v16 D17 => (if v16 < 0 then j82 a D17 else j83 a (1 : Int32) D17)))))))))))))))))
set_option maxHeartbeats 4000000 in
set_option maxRecDepth 100000 in
theorem c_MD_readHearer (z : zT) (D : zD) (a : Nat) (r1 : Nat) : zM Y_MD_readHearer 3 0 0 (zqI z) (f_MD_readHearer z.2 D a r1) [.ref a, .ref r1] z D := by
  refine zM_of (plainFor_of_name (by decide +kernel)) rfl (Nat.le_of_ble_eq_true rfl) (fun _ _ _ _ h => nomatch h.1) (fun K => ?_)
  unfold f_MD_readHearer
  refine z_jp (fun j94 : Int32 → zD → Option (Int32 × zD) => ∀ (s0 : Int32) (D1 : zD), zGO K Y_MD_readHearer 3 0 0 (zqI z) (j94 s0 D1) 0 0 z D1 94 [] [.int s0]) (fun s0 D1 => ?_) (fun j94 h94 => ?_)
  · exact z_zret (pc := 94) d_MD_readHearer_94 rfl
  · refine z_jp (fun j93 : zD → Option (Int32 × zD) => ∀ (D2 : zD), zGO K Y_MD_readHearer 3 0 0 (zqI z) (j93  D2) 0 0 z D2 93 [] []) (fun  D2 => ?_) (fun j93 h93 => ?_)
    · refine z_iconst (pc := 93) d_MD_readHearer_93 ki_0 ?_
      exact z_sub [] rfl (h94 (0 : Int32) D2)
    · refine z_aload_n (pc := 0) d_MD_readHearer_0 rfl 0 rfl ?_
      refine z_iconst (pc := 1) d_MD_readHearer_1 ki_0 ?_
      refine z_iconst (pc := 2) d_MD_readHearer_2 ki_2 ?_
      refine z_iconst (pc := 3) d_MD_readHearer_3 ki_0 ?_
      refine z_bipush (pc := 4) d_MD_readHearer_4 kb_80 ?_
      refine z_callVi (pc := 6) [.int (0 : Int32), .int (2 : Int32), .int (0 : Int32), .int (80 : Int32)] lkV_MD_137 rfl (c_MD_figures z D a (0 : Int32) (2 : Int32) (0 : Int32) (80 : Int32)) (by decide) rfl rfl (Nat.le_of_ble_eq_true rfl) d_MD_readHearer_6 (fun v3 D4 => ?_)
      refine z_istore_n (pc := 9) d_MD_readHearer_9 rfl (by decide) (lv' := [(2, .int v3), (0, .ref a), (1, .ref r1)]) rfl ?_
      refine z_aload_n (pc := 10) d_MD_readHearer_10 rfl 1 rfl ?_
      refine z_iload_n (pc := 11) d_MD_readHearer_11 rfl 0 rfl ?_
      refine z_iconst (pc := 12) d_MD_readHearer_12 ki_2 ?_
      refine z_iconst (pc := 13) d_MD_readHearer_13 ki_0 ?_
      refine z_bipush (pc := 14) d_MD_readHearer_14 kb_80 ?_
      refine z_callVi (pc := 16) [.int v3, .int (2 : Int32), .int (0 : Int32), .int (80 : Int32)] lkV_MD_137 rfl (c_MD_figures z D4 a v3 (2 : Int32) (0 : Int32) (80 : Int32)) (by decide) rfl rfl (Nat.le_of_ble_eq_true rfl) d_MD_readHearer_16 (fun v5 D6 => ?_)
      refine z_istore_n (pc := 19) d_MD_readHearer_19 rfl (by decide) (lv' := [(3, .int v5), (2, .int v3), (0, .ref a), (1, .ref r1)]) rfl ?_
      refine z_aload_n (pc := 20) d_MD_readHearer_20 rfl 2 rfl ?_
      refine z_iload_n (pc := 21) d_MD_readHearer_21 rfl 0 rfl ?_
      refine z_iconst (pc := 22) d_MD_readHearer_22 ki_1 ?_
      refine z_iconst (pc := 23) d_MD_readHearer_23 ki_0 ?_
      refine z_iconst (pc := 24) d_MD_readHearer_24 ki_4 ?_
      refine z_callVi (pc := 25) [.int v5, .int (1 : Int32), .int (0 : Int32), .int (4 : Int32)] lkV_MD_137 rfl (c_MD_figures z D6 a v5 (1 : Int32) (0 : Int32) (4 : Int32)) (by decide) rfl rfl (Nat.le_of_ble_eq_true rfl) d_MD_readHearer_25 (fun v7 D8 => ?_)
      refine z_istore (pc := 28) d_MD_readHearer_28 (by decide) (lv' := [(4, .int v7), (3, .int v5), (2, .int v3), (0, .ref a), (1, .ref r1)]) rfl ?_
      refine z_aload_n (pc := 30) d_MD_readHearer_30 rfl 3 rfl ?_
      refine z_iload (pc := 31) d_MD_readHearer_31 0 rfl ?_
      refine z_iconst (pc := 33) d_MD_readHearer_33 ki_1 ?_
      refine z_iconst (pc := 34) d_MD_readHearer_34 ki_0 ?_
      refine z_iconst (pc := 35) d_MD_readHearer_35 ki_4 ?_
      refine z_callVi (pc := 36) [.int v7, .int (1 : Int32), .int (0 : Int32), .int (4 : Int32)] lkV_MD_137 rfl (c_MD_figures z D8 a v7 (1 : Int32) (0 : Int32) (4 : Int32)) (by decide) rfl rfl (Nat.le_of_ble_eq_true rfl) d_MD_readHearer_36 (fun v9 D10 => ?_)
      refine z_istore (pc := 39) d_MD_readHearer_39 (by decide) (lv' := [(5, .int v9), (4, .int v7), (3, .int v5), (2, .int v3), (0, .ref a), (1, .ref r1)]) rfl ?_
      refine z_iload (pc := 41) d_MD_readHearer_41 0 rfl ?_
      refine z_iconst (pc := 43) d_MD_readHearer_43 ki_m1 ?_
      refine z_icmp_eq (pc := 44) (tgt := 93) d_MD_readHearer_44 (by decide) ?_ ?_
      · exact z_sub [] rfl (h93 D10)
      · refine z_jp (fun j83 : Nat → Int32 → zD → Option (Int32 × zD) => ∀ (s0 : Nat) (s1 : Int32) (D11 : zD), zGO K Y_MD_readHearer 3 0 0 (zqI z) (j83 s0 s1 D11) 0 0 z D11 83 [] [.int s1, .ref s0]) (fun s0 s1 D11 => ?_) (fun j83 h83 => ?_)
        · refine z_callVi (pc := 83) [.int s1] lkV_MD_145 rfl (c_MD_done z D11 s0 s1) (by decide) rfl rfl (Nat.le_of_ble_eq_true rfl) d_MD_readHearer_83 (fun v12 D13 => ?_)
          refine z_if_eq (pc := 86) (tgt := 93) d_MD_readHearer_86 (by decide) ?_ ?_
          · exact z_sub [] rfl (h93 D13)
          · refine z_iconst (pc := 89) d_MD_readHearer_89 ki_1 ?_
            refine z_goto (pc := 90) (tgt := 94) d_MD_readHearer_90 (by decide) ?_
            exact z_sub [] rfl (h94 (1 : Int32) D13)
        · refine z_jp (fun j82 : Nat → zD → Option (Int32 × zD) => ∀ (s0 : Nat) (D14 : zD), zGO K Y_MD_readHearer 3 0 0 (zqI z) (j82 s0 D14) 0 0 z D14 82 [] [.ref s0]) (fun s0 D14 => ?_) (fun j82 h82 => ?_)
          · refine z_iconst (pc := 82) d_MD_readHearer_82 ki_0 ?_
            exact z_sub [] rfl (h83 s0 (0 : Int32) D14)
          · refine z_aload_n (pc := 47) d_MD_readHearer_47 rfl 4 rfl ?_
            refine z_aload_n (pc := 48) d_MD_readHearer_48 rfl 5 rfl ?_
            refine z_iconst (pc := 49) d_MD_readHearer_49 ki_1 ?_
            refine z_iaload (pc := 50) d_MD_readHearer_50 (fun v15 => ?_)
            refine z_iconst (pc := 51) d_MD_readHearer_51 ki_4 ?_
            refine z_icmp_ge (pc := 52) (tgt := 82) d_MD_readHearer_52 (by decide) ?_ ?_
            · exact z_sub [] rfl (h82 a D10)
            · refine z_aload_n (pc := 55) d_MD_readHearer_55 rfl 5 rfl ?_
              refine z_iload_n (pc := 56) d_MD_readHearer_56 rfl 3 rfl ?_
              refine z_bipush (pc := 57) d_MD_readHearer_57 kb_40 ?_
              refine z_isub (pc := 59) d_MD_readHearer_59 ?_
              refine z_iload_n (pc := 60) d_MD_readHearer_60 rfl 2 rfl ?_
              refine z_bipush (pc := 61) d_MD_readHearer_61 kb_40 ?_
              refine z_isub (pc := 63) d_MD_readHearer_63 ?_
              refine z_iload (pc := 64) d_MD_readHearer_64 1 rfl ?_
              refine z_iconst (pc := 66) d_MD_readHearer_66 ki_2 ?_
              refine z_isub (pc := 67) d_MD_readHearer_67 ?_
              refine z_iload (pc := 68) d_MD_readHearer_68 0 rfl ?_
              refine z_iconst (pc := 70) d_MD_readHearer_70 ki_2 ?_
              refine z_isub (pc := 71) d_MD_readHearer_71 ?_
              refine z_callSi (pc := 72) [.ref r1, .int (v3 - (40 : Int32)), .int (v5 - (40 : Int32)), .int (v7 - (2 : Int32)), .int (v9 - (2 : Int32))] lkS_MD_149 (c_MD_hearerOn z D10 r1 (v3 - (40 : Int32)) (v5 - (40 : Int32)) (v7 - (2 : Int32)) (v9 - (2 : Int32))) (by decide) rfl rfl (Nat.le_of_ble_eq_true rfl) d_MD_readHearer_72 (fun v16 D17 => ?_)
              refine z_if_lt (pc := 75) (tgt := 82) d_MD_readHearer_75 (by decide) ?_ ?_
              · exact z_sub [] rfl (h82 a D17)
              · refine z_iconst (pc := 78) d_MD_readHearer_78 ki_1 ?_
                refine z_goto (pc := 79) (tgt := 83) d_MD_readHearer_79 (by decide) ?_
                exact z_sub [] rfl (h83 a (1 : Int32) D17)
theorem d_MD_sirenOf_0 : decode Y_MD_sirenOf.2.1 0 = .ok (.aload_n 0, 1) := by decide +kernel
theorem d_MD_sirenOf_1 : decode Y_MD_sirenOf.2.1 1 = .ok (.aload_n 0, 1) := by decide +kernel
theorem d_MD_sirenOf_2 : decode Y_MD_sirenOf.2.1 2 = .ok (.getfield 13, 3) := by decide +kernel
theorem d_MD_sirenOf_5 : decode Y_MD_sirenOf.2.1 5 = .ok (.iload_n 1, 1) := by decide +kernel
theorem d_MD_sirenOf_6 : decode Y_MD_sirenOf.2.1 6 = .ok (.invokestatic 168, 3) := by decide +kernel
theorem d_MD_sirenOf_9 : decode Y_MD_sirenOf.2.1 9 = .ok (.ifCond .ne (7), 3) := by decide +kernel
theorem d_MD_sirenOf_12 : decode Y_MD_sirenOf.2.1 12 = .ok (.iconst (1), 1) := by decide +kernel
theorem d_MD_sirenOf_13 : decode Y_MD_sirenOf.2.1 13 = .ok (.goto (20), 3) := by decide +kernel
theorem d_MD_sirenOf_16 : decode Y_MD_sirenOf.2.1 16 = .ok (.iload_n 2, 1) := by decide +kernel
theorem d_MD_sirenOf_17 : decode Y_MD_sirenOf.2.1 17 = .ok (.i2l, 1) := by decide +kernel
theorem d_MD_sirenOf_18 : decode Y_MD_sirenOf.2.1 18 = .ok (.lconst 0, 1) := by decide +kernel
theorem d_MD_sirenOf_19 : decode Y_MD_sirenOf.2.1 19 = .ok (.ldc2_w 41, 3) := by decide +kernel
theorem d_MD_sirenOf_22 : decode Y_MD_sirenOf.2.1 22 = .ok (.invokestatic 37, 3) := by decide +kernel
theorem d_MD_sirenOf_25 : decode Y_MD_sirenOf.2.1 25 = .ok (.ifCond .eq (7), 3) := by decide +kernel
theorem d_MD_sirenOf_28 : decode Y_MD_sirenOf.2.1 28 = .ok (.iconst (0), 1) := by decide +kernel
theorem d_MD_sirenOf_29 : decode Y_MD_sirenOf.2.1 29 = .ok (.goto (4), 3) := by decide +kernel
theorem d_MD_sirenOf_32 : decode Y_MD_sirenOf.2.1 32 = .ok (.iconst (2), 1) := by decide +kernel
theorem d_MD_sirenOf_33 : decode Y_MD_sirenOf.2.1 33 = .ok (.invokevirtual 127, 3) := by decide +kernel
theorem d_MD_sirenOf_36 : decode Y_MD_sirenOf.2.1 36 = .ok (.ifCond .eq (5), 3) := by decide +kernel
theorem d_MD_sirenOf_39 : decode Y_MD_sirenOf.2.1 39 = .ok (.iconst (0), 1) := by decide +kernel
theorem d_MD_sirenOf_40 : decode Y_MD_sirenOf.2.1 40 = .ok (.ireturn, 1) := by decide +kernel
theorem d_MD_sirenOf_41 : decode Y_MD_sirenOf.2.1 41 = .ok (.iload_n 2, 1) := by decide +kernel
theorem d_MD_sirenOf_42 : decode Y_MD_sirenOf.2.1 42 = .ok (.bipush (7), 2) := by decide +kernel
theorem d_MD_sirenOf_44 : decode Y_MD_sirenOf.2.1 44 = .ok (.if_icmp .ge (15), 3) := by decide +kernel
theorem d_MD_sirenOf_47 : decode Y_MD_sirenOf.2.1 47 = .ok (.aload_n 0, 1) := by decide +kernel
theorem d_MD_sirenOf_48 : decode Y_MD_sirenOf.2.1 48 = .ok (.getfield 13, 3) := by decide +kernel
theorem d_MD_sirenOf_51 : decode Y_MD_sirenOf.2.1 51 = .ok (.iload_n 1, 1) := by decide +kernel
theorem d_MD_sirenOf_52 : decode Y_MD_sirenOf.2.1 52 = .ok (.iload_n 2, 1) := by decide +kernel
theorem d_MD_sirenOf_53 : decode Y_MD_sirenOf.2.1 53 = .ok (.invokestatic 45, 3) := by decide +kernel
theorem d_MD_sirenOf_56 : decode Y_MD_sirenOf.2.1 56 = .ok (.goto (64), 3) := by decide +kernel
theorem d_MD_sirenOf_59 : decode Y_MD_sirenOf.2.1 59 = .ok (.iload_n 2, 1) := by decide +kernel
theorem d_MD_sirenOf_60 : decode Y_MD_sirenOf.2.1 60 = .ok (.bipush (7), 2) := by decide +kernel
theorem d_MD_sirenOf_62 : decode Y_MD_sirenOf.2.1 62 = .ok (.if_icmp .ne (14), 3) := by decide +kernel
theorem d_MD_sirenOf_65 : decode Y_MD_sirenOf.2.1 65 = .ok (.aload_n 0, 1) := by decide +kernel
theorem d_MD_sirenOf_66 : decode Y_MD_sirenOf.2.1 66 = .ok (.getfield 13, 3) := by decide +kernel
theorem d_MD_sirenOf_69 : decode Y_MD_sirenOf.2.1 69 = .ok (.iload_n 1, 1) := by decide +kernel
theorem d_MD_sirenOf_70 : decode Y_MD_sirenOf.2.1 70 = .ok (.invokestatic 57, 3) := by decide +kernel
theorem d_MD_sirenOf_73 : decode Y_MD_sirenOf.2.1 73 = .ok (.goto (47), 3) := by decide +kernel
theorem d_MD_sirenOf_76 : decode Y_MD_sirenOf.2.1 76 = .ok (.iload_n 2, 1) := by decide +kernel
theorem d_MD_sirenOf_77 : decode Y_MD_sirenOf.2.1 77 = .ok (.bipush (8), 2) := by decide +kernel
theorem d_MD_sirenOf_79 : decode Y_MD_sirenOf.2.1 79 = .ok (.if_icmp .ne (14), 3) := by decide +kernel
theorem d_MD_sirenOf_82 : decode Y_MD_sirenOf.2.1 82 = .ok (.aload_n 0, 1) := by decide +kernel
theorem d_MD_sirenOf_83 : decode Y_MD_sirenOf.2.1 83 = .ok (.getfield 13, 3) := by decide +kernel
theorem d_MD_sirenOf_86 : decode Y_MD_sirenOf.2.1 86 = .ok (.iload_n 1, 1) := by decide +kernel
theorem d_MD_sirenOf_87 : decode Y_MD_sirenOf.2.1 87 = .ok (.invokestatic 60, 3) := by decide +kernel
theorem d_MD_sirenOf_90 : decode Y_MD_sirenOf.2.1 90 = .ok (.goto (30), 3) := by decide +kernel
theorem d_MD_sirenOf_93 : decode Y_MD_sirenOf.2.1 93 = .ok (.aload_n 0, 1) := by decide +kernel
theorem d_MD_sirenOf_94 : decode Y_MD_sirenOf.2.1 94 = .ok (.getfield 13, 3) := by decide +kernel
theorem d_MD_sirenOf_97 : decode Y_MD_sirenOf.2.1 97 = .ok (.iload_n 1, 1) := by decide +kernel
theorem d_MD_sirenOf_98 : decode Y_MD_sirenOf.2.1 98 = .ok (.iconst (3), 1) := by decide +kernel
theorem d_MD_sirenOf_99 : decode Y_MD_sirenOf.2.1 99 = .ok (.invokestatic 45, 3) := by decide +kernel
theorem d_MD_sirenOf_102 : decode Y_MD_sirenOf.2.1 102 = .ok (.invokestatic 73, 3) := by decide +kernel
theorem d_MD_sirenOf_105 : decode Y_MD_sirenOf.2.1 105 = .ok (.aload_n 0, 1) := by decide +kernel
theorem d_MD_sirenOf_106 : decode Y_MD_sirenOf.2.1 106 = .ok (.getfield 13, 3) := by decide +kernel
theorem d_MD_sirenOf_109 : decode Y_MD_sirenOf.2.1 109 = .ok (.bipush (9), 2) := by decide +kernel
theorem d_MD_sirenOf_111 : decode Y_MD_sirenOf.2.1 111 = .ok (.iaload, 1) := by decide +kernel
theorem d_MD_sirenOf_112 : decode Y_MD_sirenOf.2.1 112 = .ok (.if_icmp .le (7), 3) := by decide +kernel
theorem d_MD_sirenOf_115 : decode Y_MD_sirenOf.2.1 115 = .ok (.iconst (1), 1) := by decide +kernel
theorem d_MD_sirenOf_116 : decode Y_MD_sirenOf.2.1 116 = .ok (.goto (4), 3) := by decide +kernel
theorem d_MD_sirenOf_119 : decode Y_MD_sirenOf.2.1 119 = .ok (.iconst (0), 1) := by decide +kernel
theorem d_MD_sirenOf_120 : decode Y_MD_sirenOf.2.1 120 = .ok (.ireturn, 1) := by decide +kernel
def f_MD_sirenOf (w : zW) (D : zD) (a : Nat) (x1 : Int32) (x2 : Int32) : Option (Int32 × zD) := zjp (fun (s0 : Nat) (s1 : Int32) (D1 : zD) => zobj w 8 s0 (zci (f_MD_refused w D1 s0 s1) (fun v2 D3 => (if v2 = 0 then zjp (fun (s0 : Int32) (D4 : zD) => some (s0, D4)) (fun j120 => (if (7 : Int32) ≤ x2 then (if x2 = (7 : Int32) then zref w 8 3 a (fun p15 => zci (f_MD_xOf w D3 p15 x1) (fun v16 D17 => j120 v16 D17)) else (if x2 = (8 : Int32) then zref w 8 3 a (fun p12 => zci (f_MD_yOf w D3 p12 x1) (fun v13 D14 => j120 v13 D14)) else zref w 8 3 a (fun p5 => zci (f_MD_ofSiren w D3 p5 x1 (3 : Int32)) (fun v6 D7 => zci (f_MD_without w D7 v6) (fun v8 D9 => zref w 8 3 a (fun p10 => zald w D9 0 p10 (9 : Int32) (fun v11 => (if v8 ≤ v11 then j120 (0 : Int32) D9 else j120 (1 : Int32) D9)))))))) else zref w 8 3 a (fun p18 => zci (f_MD_ofSiren w D3 p18 x1 x2) (fun v19 D20 => j120 v19 D20)))) else some ((0 : Int32), D3))))) (fun j33 => zref w 8 3 a (fun p21 => zci (f_MD_isSiren w D p21 x1) (fun v22 D23 => (if v22 = 0 then j33 a (1 : Int32) D23 else zci (f_MD_in w D23 x2.toInt64 (0 : Int64) (9 : Int64)) (fun v24 D25 => (if v24 = 0 then j33 a (2 : Int32) D25 else j33 a (0 : Int32) D25))))))
set_option maxHeartbeats 4000000 in
set_option maxRecDepth 100000 in
theorem c_MD_sirenOf (z : zT) (D : zD) (a : Nat) (x1 : Int32) (x2 : Int32) : zM Y_MD_sirenOf 3 0 0 (zqI z) (f_MD_sirenOf z.2 D a x1 x2) [.ref a, .int x1, .int x2] z D := by
  refine zM_of (plainFor_of_name (by decide +kernel)) rfl (Nat.le_of_ble_eq_true rfl) (fun _ _ _ _ h => nomatch h.1) (fun K => ?_)
  unfold f_MD_sirenOf
  refine z_jp (fun j33 : Nat → Int32 → zD → Option (Int32 × zD) => ∀ (s0 : Nat) (s1 : Int32) (D1 : zD), zGO K Y_MD_sirenOf 3 0 0 (zqI z) (j33 s0 s1 D1) 0 0 z D1 33 [(0, .ref a), (1, .int x1), (2, .int x2)] [.int s1, .ref s0]) (fun s0 s1 D1 => ?_) (fun j33 h33 => ?_)
  · refine z_callVi (pc := 33) [.int s1] lkV_MD_127 rfl (c_MD_refused z D1 s0 s1) (by decide) rfl rfl (Nat.le_of_ble_eq_true rfl) d_MD_sirenOf_33 (fun v2 D3 => ?_)
    refine z_if_eq (pc := 36) (tgt := 41) d_MD_sirenOf_36 (by decide) ?_ ?_
    · refine z_jp (fun j120 : Int32 → zD → Option (Int32 × zD) => ∀ (s0 : Int32) (D4 : zD), zGO K Y_MD_sirenOf 3 0 0 (zqI z) (j120 s0 D4) 0 0 z D4 120 [] [.int s0]) (fun s0 D4 => ?_) (fun j120 h120 => ?_)
      · exact z_iret (pc := 120) d_MD_sirenOf_120 rfl
      · refine z_iload_n (pc := 41) d_MD_sirenOf_41 rfl 2 rfl ?_
        refine z_bipush (pc := 42) d_MD_sirenOf_42 kb_7 ?_
        refine z_icmp_ge (pc := 44) (tgt := 59) d_MD_sirenOf_44 (by decide) ?_ ?_
        · refine z_iload_n (pc := 59) d_MD_sirenOf_59 rfl 2 rfl ?_
          refine z_bipush (pc := 60) d_MD_sirenOf_60 kb_7 ?_
          refine z_icmp_ne (pc := 62) (tgt := 76) d_MD_sirenOf_62 (by decide) ?_ ?_
          · refine z_aload_n (pc := 65) d_MD_sirenOf_65 rfl 0 rfl ?_
            refine z_getR (pc := 66) fl_MD_13 d_MD_sirenOf_66 (fun p15 => ?_)
            refine z_iload_n (pc := 69) d_MD_sirenOf_69 rfl 1 rfl ?_
            refine z_callSi (pc := 70) [.ref p15, .int x1] lkS_MD_57 (c_MD_xOf z D3 p15 x1) (by decide) rfl rfl (Nat.le_of_ble_eq_true rfl) d_MD_sirenOf_70 (fun v16 D17 => ?_)
            refine z_goto (pc := 73) (tgt := 120) d_MD_sirenOf_73 (by decide) ?_
            exact z_sub [] rfl (h120 v16 D17)
          · refine z_iload_n (pc := 76) d_MD_sirenOf_76 rfl 2 rfl ?_
            refine z_bipush (pc := 77) d_MD_sirenOf_77 kb_8 ?_
            refine z_icmp_ne (pc := 79) (tgt := 93) d_MD_sirenOf_79 (by decide) ?_ ?_
            · refine z_aload_n (pc := 82) d_MD_sirenOf_82 rfl 0 rfl ?_
              refine z_getR (pc := 83) fl_MD_13 d_MD_sirenOf_83 (fun p12 => ?_)
              refine z_iload_n (pc := 86) d_MD_sirenOf_86 rfl 1 rfl ?_
              refine z_callSi (pc := 87) [.ref p12, .int x1] lkS_MD_60 (c_MD_yOf z D3 p12 x1) (by decide) rfl rfl (Nat.le_of_ble_eq_true rfl) d_MD_sirenOf_87 (fun v13 D14 => ?_)
              refine z_goto (pc := 90) (tgt := 120) d_MD_sirenOf_90 (by decide) ?_
              exact z_sub [] rfl (h120 v13 D14)
            · refine z_aload_n (pc := 93) d_MD_sirenOf_93 rfl 0 rfl ?_
              refine z_getR (pc := 94) fl_MD_13 d_MD_sirenOf_94 (fun p5 => ?_)
              refine z_iload_n (pc := 97) d_MD_sirenOf_97 rfl 1 rfl ?_
              refine z_iconst (pc := 98) d_MD_sirenOf_98 ki_3 ?_
              refine z_callSi (pc := 99) [.ref p5, .int x1, .int (3 : Int32)] lkS_MD_45 (c_MD_ofSiren z D3 p5 x1 (3 : Int32)) (by decide) rfl rfl (Nat.le_of_ble_eq_true rfl) d_MD_sirenOf_99 (fun v6 D7 => ?_)
              refine z_callSi (pc := 102) [.int v6] lkS_MD_73 (c_MD_without z D7 v6) (by decide) rfl rfl (Nat.le_of_ble_eq_true rfl) d_MD_sirenOf_102 (fun v8 D9 => ?_)
              refine z_aload_n (pc := 105) d_MD_sirenOf_105 rfl 0 rfl ?_
              refine z_getR (pc := 106) fl_MD_13 d_MD_sirenOf_106 (fun p10 => ?_)
              refine z_bipush (pc := 109) d_MD_sirenOf_109 kb_9 ?_
              refine z_iaload (pc := 111) d_MD_sirenOf_111 (fun v11 => ?_)
              refine z_icmp_le (pc := 112) (tgt := 119) d_MD_sirenOf_112 (by decide) ?_ ?_
              · refine z_iconst (pc := 119) d_MD_sirenOf_119 ki_0 ?_
                exact z_sub [] rfl (h120 (0 : Int32) D9)
              · refine z_iconst (pc := 115) d_MD_sirenOf_115 ki_1 ?_
                refine z_goto (pc := 116) (tgt := 120) d_MD_sirenOf_116 (by decide) ?_
                exact z_sub [] rfl (h120 (1 : Int32) D9)
        · refine z_aload_n (pc := 47) d_MD_sirenOf_47 rfl 0 rfl ?_
          refine z_getR (pc := 48) fl_MD_13 d_MD_sirenOf_48 (fun p18 => ?_)
          refine z_iload_n (pc := 51) d_MD_sirenOf_51 rfl 1 rfl ?_
          refine z_iload_n (pc := 52) d_MD_sirenOf_52 rfl 2 rfl ?_
          refine z_callSi (pc := 53) [.ref p18, .int x1, .int x2] lkS_MD_45 (c_MD_ofSiren z D3 p18 x1 x2) (by decide) rfl rfl (Nat.le_of_ble_eq_true rfl) d_MD_sirenOf_53 (fun v19 D20 => ?_)
          refine z_goto (pc := 56) (tgt := 120) d_MD_sirenOf_56 (by decide) ?_
          exact z_sub [] rfl (h120 v19 D20)
    · refine z_iconst (pc := 39) d_MD_sirenOf_39 ki_0 ?_
      exact z_iret (pc := 40) d_MD_sirenOf_40 rfl
  · refine z_aload_n (pc := 0) d_MD_sirenOf_0 rfl 0 rfl ?_
    refine z_aload_n (pc := 1) d_MD_sirenOf_1 rfl 0 rfl ?_
    refine z_getR (pc := 2) fl_MD_13 d_MD_sirenOf_2 (fun p21 => ?_)
    refine z_iload_n (pc := 5) d_MD_sirenOf_5 rfl 1 rfl ?_
    refine z_callSi (pc := 6) [.ref p21, .int x1] lkS_MD_168 (c_MD_isSiren z D p21 x1) (by decide) rfl rfl (Nat.le_of_ble_eq_true rfl) d_MD_sirenOf_6 (fun v22 D23 => ?_)
    refine z_if_ne (pc := 9) (tgt := 16) d_MD_sirenOf_9 (by decide) ?_ ?_
    · refine z_iconst (pc := 12) d_MD_sirenOf_12 ki_1 ?_
      refine z_goto (pc := 13) (tgt := 33) d_MD_sirenOf_13 (by decide) ?_
      exact z_sub [0, 1, 2] rfl (h33 a (1 : Int32) D23)
    · refine z_iload_n (pc := 16) d_MD_sirenOf_16 rfl 2 rfl ?_
      refine z_i2l (pc := 17) d_MD_sirenOf_17 ?_
      refine z_lconst (pc := 18) d_MD_sirenOf_18 (v := 0) rfl ?_
      refine z_ldc2 (pc := 19) w_k_MD_41 d_MD_sirenOf_19 ?_
      refine z_callSi (pc := 22) [.long x2.toInt64, .long (0 : Int64), .long (9 : Int64)] lkS_MD_37 (c_MD_in z D23 x2.toInt64 (0 : Int64) (9 : Int64)) (by decide) rfl rfl (Nat.le_of_ble_eq_true rfl) d_MD_sirenOf_22 (fun v24 D25 => ?_)
      refine z_if_eq (pc := 25) (tgt := 32) d_MD_sirenOf_25 (by decide) ?_ ?_
      · refine z_iconst (pc := 32) d_MD_sirenOf_32 ki_2 ?_
        exact z_sub [0, 1, 2] rfl (h33 a (2 : Int32) D25)
      · refine z_iconst (pc := 28) d_MD_sirenOf_28 ki_0 ?_
        refine z_goto (pc := 29) (tgt := 33) d_MD_sirenOf_29 (by decide) ?_
        exact z_sub [0, 1, 2] rfl (h33 a (0 : Int32) D25)
theorem d_MD_nearest_0 : decode Y_MD_nearest.2.1 0 = .ok (.iconst (-1), 1) := by decide +kernel
theorem d_MD_nearest_1 : decode Y_MD_nearest.2.1 1 = .ok (.istore_n 2, 1) := by decide +kernel
theorem d_MD_nearest_2 : decode Y_MD_nearest.2.1 2 = .ok (.iconst (0), 1) := by decide +kernel
theorem d_MD_nearest_3 : decode Y_MD_nearest.2.1 3 = .ok (.istore_n 3, 1) := by decide +kernel
theorem d_MD_nearest_4 : decode Y_MD_nearest.2.1 4 = .ok (.iconst (0), 1) := by decide +kernel
theorem d_MD_nearest_5 : decode Y_MD_nearest.2.1 5 = .ok (.istore 4, 2) := by decide +kernel
theorem d_MD_nearest_7 : decode Y_MD_nearest.2.1 7 = .ok (.iload 4, 2) := by decide +kernel
theorem d_MD_nearest_9 : decode Y_MD_nearest.2.1 9 = .ok (.aload_n 0, 1) := by decide +kernel
theorem d_MD_nearest_10 : decode Y_MD_nearest.2.1 10 = .ok (.iconst (0), 1) := by decide +kernel
theorem d_MD_nearest_11 : decode Y_MD_nearest.2.1 11 = .ok (.iaload, 1) := by decide +kernel
theorem d_MD_nearest_12 : decode Y_MD_nearest.2.1 12 = .ok (.if_icmp .ge (86), 3) := by decide +kernel
theorem d_MD_nearest_15 : decode Y_MD_nearest.2.1 15 = .ok (.aload_n 0, 1) := by decide +kernel
theorem d_MD_nearest_16 : decode Y_MD_nearest.2.1 16 = .ok (.iload 4, 2) := by decide +kernel
theorem d_MD_nearest_18 : decode Y_MD_nearest.2.1 18 = .ok (.invokestatic 57, 3) := by decide +kernel
theorem d_MD_nearest_21 : decode Y_MD_nearest.2.1 21 = .ok (.aload_n 0, 1) := by decide +kernel
theorem d_MD_nearest_22 : decode Y_MD_nearest.2.1 22 = .ok (.iload_n 1, 1) := by decide +kernel
theorem d_MD_nearest_23 : decode Y_MD_nearest.2.1 23 = .ok (.iconst (0), 1) := by decide +kernel
theorem d_MD_nearest_24 : decode Y_MD_nearest.2.1 24 = .ok (.invokestatic 70, 3) := by decide +kernel
theorem d_MD_nearest_27 : decode Y_MD_nearest.2.1 27 = .ok (.isub, 1) := by decide +kernel
theorem d_MD_nearest_28 : decode Y_MD_nearest.2.1 28 = .ok (.invokestatic 73, 3) := by decide +kernel
theorem d_MD_nearest_31 : decode Y_MD_nearest.2.1 31 = .ok (.aload_n 0, 1) := by decide +kernel
theorem d_MD_nearest_32 : decode Y_MD_nearest.2.1 32 = .ok (.iload 4, 2) := by decide +kernel
theorem d_MD_nearest_34 : decode Y_MD_nearest.2.1 34 = .ok (.invokestatic 60, 3) := by decide +kernel
theorem d_MD_nearest_37 : decode Y_MD_nearest.2.1 37 = .ok (.aload_n 0, 1) := by decide +kernel
theorem d_MD_nearest_38 : decode Y_MD_nearest.2.1 38 = .ok (.iload_n 1, 1) := by decide +kernel
theorem d_MD_nearest_39 : decode Y_MD_nearest.2.1 39 = .ok (.iconst (1), 1) := by decide +kernel
theorem d_MD_nearest_40 : decode Y_MD_nearest.2.1 40 = .ok (.invokestatic 70, 3) := by decide +kernel
theorem d_MD_nearest_43 : decode Y_MD_nearest.2.1 43 = .ok (.isub, 1) := by decide +kernel
theorem d_MD_nearest_44 : decode Y_MD_nearest.2.1 44 = .ok (.invokestatic 73, 3) := by decide +kernel
theorem d_MD_nearest_47 : decode Y_MD_nearest.2.1 47 = .ok (.iadd, 1) := by decide +kernel
theorem d_MD_nearest_48 : decode Y_MD_nearest.2.1 48 = .ok (.istore 5, 2) := by decide +kernel
theorem d_MD_nearest_50 : decode Y_MD_nearest.2.1 50 = .ok (.iload_n 2, 1) := by decide +kernel
theorem d_MD_nearest_51 : decode Y_MD_nearest.2.1 51 = .ok (.iconst (-1), 1) := by decide +kernel
theorem d_MD_nearest_52 : decode Y_MD_nearest.2.1 52 = .ok (.if_icmp .eq (9), 3) := by decide +kernel
theorem d_MD_nearest_55 : decode Y_MD_nearest.2.1 55 = .ok (.iload 5, 2) := by decide +kernel
theorem d_MD_nearest_57 : decode Y_MD_nearest.2.1 57 = .ok (.iload_n 3, 1) := by decide +kernel
theorem d_MD_nearest_58 : decode Y_MD_nearest.2.1 58 = .ok (.if_icmp .ge (7), 3) := by decide +kernel
theorem d_MD_nearest_61 : decode Y_MD_nearest.2.1 61 = .ok (.iconst (1), 1) := by decide +kernel
theorem d_MD_nearest_62 : decode Y_MD_nearest.2.1 62 = .ok (.goto (4), 3) := by decide +kernel
theorem d_MD_nearest_65 : decode Y_MD_nearest.2.1 65 = .ok (.iconst (0), 1) := by decide +kernel
theorem d_MD_nearest_66 : decode Y_MD_nearest.2.1 66 = .ok (.istore 6, 2) := by decide +kernel
theorem d_MD_nearest_68 : decode Y_MD_nearest.2.1 68 = .ok (.iload 6, 2) := by decide +kernel
theorem d_MD_nearest_70 : decode Y_MD_nearest.2.1 70 = .ok (.ifCond .eq (8), 3) := by decide +kernel
theorem d_MD_nearest_73 : decode Y_MD_nearest.2.1 73 = .ok (.iload 4, 2) := by decide +kernel
theorem d_MD_nearest_75 : decode Y_MD_nearest.2.1 75 = .ok (.goto (4), 3) := by decide +kernel
theorem d_MD_nearest_78 : decode Y_MD_nearest.2.1 78 = .ok (.iload_n 2, 1) := by decide +kernel
theorem d_MD_nearest_79 : decode Y_MD_nearest.2.1 79 = .ok (.istore_n 2, 1) := by decide +kernel
theorem d_MD_nearest_80 : decode Y_MD_nearest.2.1 80 = .ok (.iload 6, 2) := by decide +kernel
theorem d_MD_nearest_82 : decode Y_MD_nearest.2.1 82 = .ok (.ifCond .eq (8), 3) := by decide +kernel
theorem d_MD_nearest_85 : decode Y_MD_nearest.2.1 85 = .ok (.iload 5, 2) := by decide +kernel
theorem d_MD_nearest_87 : decode Y_MD_nearest.2.1 87 = .ok (.goto (4), 3) := by decide +kernel
theorem d_MD_nearest_90 : decode Y_MD_nearest.2.1 90 = .ok (.iload_n 3, 1) := by decide +kernel
theorem d_MD_nearest_91 : decode Y_MD_nearest.2.1 91 = .ok (.istore_n 3, 1) := by decide +kernel
theorem d_MD_nearest_92 : decode Y_MD_nearest.2.1 92 = .ok (.iinc 4 (1), 3) := by decide +kernel
theorem d_MD_nearest_95 : decode Y_MD_nearest.2.1 95 = .ok (.goto (-88), 3) := by decide +kernel
theorem d_MD_nearest_98 : decode Y_MD_nearest.2.1 98 = .ok (.iload_n 2, 1) := by decide +kernel
theorem d_MD_nearest_99 : decode Y_MD_nearest.2.1 99 = .ok (.ireturn, 1) := by decide +kernel
def f_MD_nearest (w : zW) (D : zD) (r0 : Nat) (x1 : Int32) : Option (Int32 × zD) := zjp (zlp (fun (_ : Int32) (_ : Int32) (_ : Int32) (_ : zD) => none) (fun (j7 : Int32 → Int32 → Int32 → zD → Option (Int32 × zD)) (x2 : Int32) (x3 : Int32) (x4 : Int32) (D1 : zD) => zald w D1 0 r0 (0 : Int32) (fun v2 => (if v2 ≤ x4 then some (x2, D1) else zjp (fun (x2 : Int32) (x3 : Int32) (x4 : Int32) (x5 : Int32) (s0 : Int32) (D3 : zD) => zjp (fun (x3 : Int32) (x4 : Int32) (x5 : Int32) (x6 : Int32) (s0 : Int32) (D4 : zD) => zjp (fun (x2 : Int32) (x4 : Int32) (s0 : Int32) (D5 : zD) => zlet (x4 + (1 : Int32)) (fun v6 => j7 x2 s0 v6 D5)) (fun j91 => (if x6 = 0 then j91 s0 x4 x3 D4 else j91 s0 x4 x5 D4))) (fun j79 => (if s0 = 0 then j79 x3 x4 x5 s0 x2 D3 else j79 x3 x4 x5 s0 x4 D3))) (fun j66 => zjp (fun (x2 : Int32) (x3 : Int32) (x4 : Int32) (x5 : Int32) (D7 : zD) => j66 x2 x3 x4 x5 (1 : Int32) D7) (fun j61 => zci (f_MD_xOf w D1 r0 x4) (fun v8 D9 => zci (f_MD_ofHearer w D9 r0 x1 (0 : Int32)) (fun v10 D11 => zci (f_MD_without w D11 (v8 - v10)) (fun v12 D13 => zci (f_MD_yOf w D13 r0 x4) (fun v14 D15 => zci (f_MD_ofHearer w D15 r0 x1 (1 : Int32)) (fun v16 D17 => zci (f_MD_without w D17 (v14 - v16)) (fun v18 D19 => zlet (v12 + v18) (fun v20 => (if x2 = (-1 : Int32) then j61 x2 x3 x4 v20 D19 else (if x3 ≤ v20 then j66 x2 x3 x4 v20 (0 : Int32) D19 else j61 x2 x3 x4 v20 D19)))))))))))))) zfuel) (fun j7 => j7 (-1 : Int32) (0 : Int32) (0 : Int32) D)
set_option maxHeartbeats 4000000 in
set_option maxRecDepth 100000 in
theorem c_MD_nearest (z : zT) (D : zD) (r0 : Nat) (x1 : Int32) : zM Y_MD_nearest 3 0 0 (zqI z) (f_MD_nearest z.2 D r0 x1) [.ref r0, .int x1] z D := by
  refine zM_of (plainFor_of_name (by decide +kernel)) rfl (Nat.le_of_ble_eq_true rfl) (fun _ _ _ _ h => nomatch h.1) (fun K => ?_)
  unfold f_MD_nearest
  refine z_jp (fun j7 : Int32 → Int32 → Int32 → zD → Option (Int32 × zD) => ∀ (x2 : Int32) (x3 : Int32) (x4 : Int32) (D1 : zD), zGO K Y_MD_nearest 3 0 0 (zqI z) (j7 x2 x3 x4 D1) 0 0 z D1 7 [(0, .ref r0), (1, .int x1), (2, .int x2), (3, .int x3), (4, .int x4)] []) (z_lp (fun j7 : Int32 → Int32 → Int32 → zD → Option (Int32 × zD) => ∀ (x2 : Int32) (x3 : Int32) (x4 : Int32) (D1 : zD), zGO K Y_MD_nearest 3 0 0 (zqI z) (j7 x2 x3 x4 D1) 0 0 z D1 7 [(0, .ref r0), (1, .int x1), (2, .int x2), (3, .int x3), (4, .int x4)] []) (fun _ _ _ _ => z_none) (fun j7 h7 x2 x3 x4 D1 => ?_) zfuel) (fun j7 h7 => ?_)
  · refine z_iload (pc := 7) d_MD_nearest_7 4 rfl ?_
    refine z_aload_n (pc := 9) d_MD_nearest_9 rfl 0 rfl ?_
    refine z_iconst (pc := 10) d_MD_nearest_10 ki_0 ?_
    refine z_iaload (pc := 11) d_MD_nearest_11 (fun v2 => ?_)
    refine z_icmp_ge (pc := 12) (tgt := 98) d_MD_nearest_12 (by decide) ?_ ?_
    · refine z_iload_n (pc := 98) d_MD_nearest_98 rfl 2 rfl ?_
      exact z_iret (pc := 99) d_MD_nearest_99 rfl
    · refine z_jp (fun j66 : Int32 → Int32 → Int32 → Int32 → Int32 → zD → Option (Int32 × zD) => ∀ (x2 : Int32) (x3 : Int32) (x4 : Int32) (x5 : Int32) (s0 : Int32) (D3 : zD), zGO K Y_MD_nearest 3 0 0 (zqI z) (j66 x2 x3 x4 x5 s0 D3) 0 0 z D3 66 [(0, .ref r0), (1, .int x1), (2, .int x2), (3, .int x3), (4, .int x4), (5, .int x5)] [.int s0]) (fun x2 x3 x4 x5 s0 D3 => ?_) (fun j66 h66 => ?_)
      · refine z_jp (fun j79 : Int32 → Int32 → Int32 → Int32 → Int32 → zD → Option (Int32 × zD) => ∀ (x3 : Int32) (x4 : Int32) (x5 : Int32) (x6 : Int32) (s0 : Int32) (D4 : zD), zGO K Y_MD_nearest 3 0 0 (zqI z) (j79 x3 x4 x5 x6 s0 D4) 0 0 z D4 79 [(0, .ref r0), (1, .int x1), (3, .int x3), (4, .int x4), (5, .int x5), (6, .int x6)] [.int s0]) (fun x3 x4 x5 x6 s0 D4 => ?_) (fun j79 h79 => ?_)
        · refine z_jp (fun j91 : Int32 → Int32 → Int32 → zD → Option (Int32 × zD) => ∀ (x2 : Int32) (x4 : Int32) (s0 : Int32) (D5 : zD), zGO K Y_MD_nearest 3 0 0 (zqI z) (j91 x2 x4 s0 D5) 0 0 z D5 91 [(0, .ref r0), (1, .int x1), (2, .int x2), (4, .int x4)] [.int s0]) (fun x2 x4 s0 D5 => ?_) (fun j91 h91 => ?_)
          · refine z_istore_n (pc := 91) d_MD_nearest_91 rfl (by decide) (lv' := [(3, .int s0), (0, .ref r0), (1, .int x1), (2, .int x2), (4, .int x4)]) rfl ?_
            refine z_iincL (pc := 92) d_MD_nearest_92 ki_1 4 rfl (by decide) (fun v6 => z_lvc (lv2 := [(4, .int v6), (3, .int s0), (0, .ref r0), (1, .int x1), (2, .int x2)]) rfl ?_)
            refine z_goto (pc := 95) (tgt := 7) d_MD_nearest_95 (by decide) ?_
            exact z_sub [2, 3, 4, 1, 0] rfl (h7 x2 s0 v6 D5)
          · refine z_istore_n (pc := 79) d_MD_nearest_79 rfl (by decide) (lv' := [(2, .int s0), (0, .ref r0), (1, .int x1), (3, .int x3), (4, .int x4), (5, .int x5), (6, .int x6)]) rfl ?_
            refine z_iload (pc := 80) d_MD_nearest_80 6 rfl ?_
            refine z_if_eq (pc := 82) (tgt := 90) d_MD_nearest_82 (by decide) ?_ ?_
            · refine z_iload_n (pc := 90) d_MD_nearest_90 rfl 3 rfl ?_
              exact z_sub [1, 2, 0, 4] rfl (h91 s0 x4 x3 D4)
            · refine z_iload (pc := 85) d_MD_nearest_85 5 rfl ?_
              refine z_goto (pc := 87) (tgt := 91) d_MD_nearest_87 (by decide) ?_
              exact z_sub [1, 2, 0, 4] rfl (h91 s0 x4 x5 D4)
        · refine z_istore (pc := 66) d_MD_nearest_66 (by decide) (lv' := [(6, .int s0), (0, .ref r0), (1, .int x1), (2, .int x2), (3, .int x3), (4, .int x4), (5, .int x5)]) rfl ?_
          refine z_iload (pc := 68) d_MD_nearest_68 0 rfl ?_
          refine z_if_eq (pc := 70) (tgt := 78) d_MD_nearest_70 (by decide) ?_ ?_
          · refine z_iload_n (pc := 78) d_MD_nearest_78 rfl 3 rfl ?_
            exact z_sub [1, 2, 4, 5, 6, 0] rfl (h79 x3 x4 x5 s0 x2 D3)
          · refine z_iload (pc := 73) d_MD_nearest_73 5 rfl ?_
            refine z_goto (pc := 75) (tgt := 79) d_MD_nearest_75 (by decide) ?_
            exact z_sub [1, 2, 4, 5, 6, 0] rfl (h79 x3 x4 x5 s0 x4 D3)
      · refine z_jp (fun j61 : Int32 → Int32 → Int32 → Int32 → zD → Option (Int32 × zD) => ∀ (x2 : Int32) (x3 : Int32) (x4 : Int32) (x5 : Int32) (D7 : zD), zGO K Y_MD_nearest 3 0 0 (zqI z) (j61 x2 x3 x4 x5 D7) 0 0 z D7 61 [(0, .ref r0), (1, .int x1), (2, .int x2), (3, .int x3), (4, .int x4), (5, .int x5)] []) (fun x2 x3 x4 x5 D7 => ?_) (fun j61 h61 => ?_)
        · refine z_iconst (pc := 61) d_MD_nearest_61 ki_1 ?_
          refine z_goto (pc := 62) (tgt := 66) d_MD_nearest_62 (by decide) ?_
          exact z_sub [0, 1, 2, 3, 4, 5] rfl (h66 x2 x3 x4 x5 (1 : Int32) D7)
        · refine z_aload_n (pc := 15) d_MD_nearest_15 rfl 0 rfl ?_
          refine z_iload (pc := 16) d_MD_nearest_16 4 rfl ?_
          refine z_callSi (pc := 18) [.ref r0, .int x4] lkS_MD_57 (c_MD_xOf z D1 r0 x4) (by decide) rfl rfl (Nat.le_of_ble_eq_true rfl) d_MD_nearest_18 (fun v8 D9 => ?_)
          refine z_aload_n (pc := 21) d_MD_nearest_21 rfl 0 rfl ?_
          refine z_iload_n (pc := 22) d_MD_nearest_22 rfl 1 rfl ?_
          refine z_iconst (pc := 23) d_MD_nearest_23 ki_0 ?_
          refine z_callSi (pc := 24) [.ref r0, .int x1, .int (0 : Int32)] lkS_MD_70 (c_MD_ofHearer z D9 r0 x1 (0 : Int32)) (by decide) rfl rfl (Nat.le_of_ble_eq_true rfl) d_MD_nearest_24 (fun v10 D11 => ?_)
          refine z_isub (pc := 27) d_MD_nearest_27 ?_
          refine z_callSi (pc := 28) [.int (v8 - v10)] lkS_MD_73 (c_MD_without z D11 (v8 - v10)) (by decide) rfl rfl (Nat.le_of_ble_eq_true rfl) d_MD_nearest_28 (fun v12 D13 => ?_)
          refine z_aload_n (pc := 31) d_MD_nearest_31 rfl 0 rfl ?_
          refine z_iload (pc := 32) d_MD_nearest_32 4 rfl ?_
          refine z_callSi (pc := 34) [.ref r0, .int x4] lkS_MD_60 (c_MD_yOf z D13 r0 x4) (by decide) rfl rfl (Nat.le_of_ble_eq_true rfl) d_MD_nearest_34 (fun v14 D15 => ?_)
          refine z_aload_n (pc := 37) d_MD_nearest_37 rfl 0 rfl ?_
          refine z_iload_n (pc := 38) d_MD_nearest_38 rfl 1 rfl ?_
          refine z_iconst (pc := 39) d_MD_nearest_39 ki_1 ?_
          refine z_callSi (pc := 40) [.ref r0, .int x1, .int (1 : Int32)] lkS_MD_70 (c_MD_ofHearer z D15 r0 x1 (1 : Int32)) (by decide) rfl rfl (Nat.le_of_ble_eq_true rfl) d_MD_nearest_40 (fun v16 D17 => ?_)
          refine z_isub (pc := 43) d_MD_nearest_43 ?_
          refine z_callSi (pc := 44) [.int (v14 - v16)] lkS_MD_73 (c_MD_without z D17 (v14 - v16)) (by decide) rfl rfl (Nat.le_of_ble_eq_true rfl) d_MD_nearest_44 (fun v18 D19 => ?_)
          refine z_iadd (pc := 47) d_MD_nearest_47 ?_
          refine z_leti (fun v20 => ?_)
          refine z_istore (pc := 48) d_MD_nearest_48 (by decide) (lv' := [(5, .int v20), (0, .ref r0), (1, .int x1), (2, .int x2), (3, .int x3), (4, .int x4)]) rfl ?_
          refine z_iload_n (pc := 50) d_MD_nearest_50 rfl 3 rfl ?_
          refine z_iconst (pc := 51) d_MD_nearest_51 ki_m1 ?_
          refine z_icmp_eq (pc := 52) (tgt := 61) d_MD_nearest_52 (by decide) ?_ ?_
          · exact z_sub [1, 2, 3, 4, 5, 0] rfl (h61 x2 x3 x4 v20 D19)
          · refine z_iload (pc := 55) d_MD_nearest_55 0 rfl ?_
            refine z_iload_n (pc := 57) d_MD_nearest_57 rfl 4 rfl ?_
            refine z_icmp_ge (pc := 58) (tgt := 65) d_MD_nearest_58 (by decide) ?_ ?_
            · refine z_iconst (pc := 65) d_MD_nearest_65 ki_0 ?_
              exact z_sub [1, 2, 3, 4, 5, 0] rfl (h66 x2 x3 x4 v20 (0 : Int32) D19)
            · exact z_sub [1, 2, 3, 4, 5, 0] rfl (h61 x2 x3 x4 v20 D19)
  · refine z_iconst (pc := 0) d_MD_nearest_0 ki_m1 ?_
    refine z_istore_n (pc := 1) d_MD_nearest_1 rfl (by decide) (lv' := [(2, .int (-1 : Int32)), (0, .ref r0), (1, .int x1)]) rfl ?_
    refine z_iconst (pc := 2) d_MD_nearest_2 ki_0 ?_
    refine z_istore_n (pc := 3) d_MD_nearest_3 rfl (by decide) (lv' := [(3, .int (0 : Int32)), (2, .int (-1 : Int32)), (0, .ref r0), (1, .int x1)]) rfl ?_
    refine z_iconst (pc := 4) d_MD_nearest_4 ki_0 ?_
    refine z_istore (pc := 5) d_MD_nearest_5 (by decide) (lv' := [(4, .int (0 : Int32)), (3, .int (0 : Int32)), (2, .int (-1 : Int32)), (0, .ref r0), (1, .int x1)]) rfl ?_
    exact z_sub [3, 4, 2, 1, 0] rfl (h7 (-1 : Int32) (0 : Int32) (0 : Int32) D)
theorem d_MD_heard_0 : decode Y_MD_heard.2.1 0 = .ok (.aload_n 0, 1) := by decide +kernel
theorem d_MD_heard_1 : decode Y_MD_heard.2.1 1 = .ok (.aload_n 0, 1) := by decide +kernel
theorem d_MD_heard_2 : decode Y_MD_heard.2.1 2 = .ok (.getfield 13, 3) := by decide +kernel
theorem d_MD_heard_5 : decode Y_MD_heard.2.1 5 = .ok (.iload_n 1, 1) := by decide +kernel
theorem d_MD_heard_6 : decode Y_MD_heard.2.1 6 = .ok (.invokestatic 195, 3) := by decide +kernel
theorem d_MD_heard_9 : decode Y_MD_heard.2.1 9 = .ok (.ifCond .eq (14), 3) := by decide +kernel
theorem d_MD_heard_12 : decode Y_MD_heard.2.1 12 = .ok (.aload_n 0, 1) := by decide +kernel
theorem d_MD_heard_13 : decode Y_MD_heard.2.1 13 = .ok (.getfield 13, 3) := by decide +kernel
theorem d_MD_heard_16 : decode Y_MD_heard.2.1 16 = .ok (.iload_n 2, 1) := by decide +kernel
theorem d_MD_heard_17 : decode Y_MD_heard.2.1 17 = .ok (.invokestatic 168, 3) := by decide +kernel
theorem d_MD_heard_20 : decode Y_MD_heard.2.1 20 = .ok (.ifCond .ne (7), 3) := by decide +kernel
theorem d_MD_heard_23 : decode Y_MD_heard.2.1 23 = .ok (.iconst (1), 1) := by decide +kernel
theorem d_MD_heard_24 : decode Y_MD_heard.2.1 24 = .ok (.goto (20), 3) := by decide +kernel
theorem d_MD_heard_27 : decode Y_MD_heard.2.1 27 = .ok (.iload_n 3, 1) := by decide +kernel
theorem d_MD_heard_28 : decode Y_MD_heard.2.1 28 = .ok (.i2l, 1) := by decide +kernel
theorem d_MD_heard_29 : decode Y_MD_heard.2.1 29 = .ok (.lconst 0, 1) := by decide +kernel
theorem d_MD_heard_30 : decode Y_MD_heard.2.1 30 = .ok (.ldc2_w 198, 3) := by decide +kernel
theorem d_MD_heard_33 : decode Y_MD_heard.2.1 33 = .ok (.invokestatic 37, 3) := by decide +kernel
theorem d_MD_heard_36 : decode Y_MD_heard.2.1 36 = .ok (.ifCond .eq (7), 3) := by decide +kernel
theorem d_MD_heard_39 : decode Y_MD_heard.2.1 39 = .ok (.iconst (0), 1) := by decide +kernel
theorem d_MD_heard_40 : decode Y_MD_heard.2.1 40 = .ok (.goto (4), 3) := by decide +kernel
theorem d_MD_heard_43 : decode Y_MD_heard.2.1 43 = .ok (.iconst (2), 1) := by decide +kernel
theorem d_MD_heard_44 : decode Y_MD_heard.2.1 44 = .ok (.invokevirtual 127, 3) := by decide +kernel
theorem d_MD_heard_47 : decode Y_MD_heard.2.1 47 = .ok (.ifCond .eq (5), 3) := by decide +kernel
theorem d_MD_heard_50 : decode Y_MD_heard.2.1 50 = .ok (.iconst (0), 1) := by decide +kernel
theorem d_MD_heard_51 : decode Y_MD_heard.2.1 51 = .ok (.ireturn, 1) := by decide +kernel
theorem d_MD_heard_52 : decode Y_MD_heard.2.1 52 = .ok (.iload_n 3, 1) := by decide +kernel
theorem d_MD_heard_53 : decode Y_MD_heard.2.1 53 = .ok (.iconst (5), 1) := by decide +kernel
theorem d_MD_heard_54 : decode Y_MD_heard.2.1 54 = .ok (.if_icmp .ge (24), 3) := by decide +kernel
theorem d_MD_heard_57 : decode Y_MD_heard.2.1 57 = .ok (.aload_n 0, 1) := by decide +kernel
theorem d_MD_heard_58 : decode Y_MD_heard.2.1 58 = .ok (.getfield 13, 3) := by decide +kernel
theorem d_MD_heard_61 : decode Y_MD_heard.2.1 61 = .ok (.bipush (65), 2) := by decide +kernel
theorem d_MD_heard_63 : decode Y_MD_heard.2.1 63 = .ok (.bipush (6), 2) := by decide +kernel
theorem d_MD_heard_65 : decode Y_MD_heard.2.1 65 = .ok (.iconst (4), 1) := by decide +kernel
theorem d_MD_heard_66 : decode Y_MD_heard.2.1 66 = .ok (.iload_n 1, 1) := by decide +kernel
theorem d_MD_heard_67 : decode Y_MD_heard.2.1 67 = .ok (.imul, 1) := by decide +kernel
theorem d_MD_heard_68 : decode Y_MD_heard.2.1 68 = .ok (.iload_n 2, 1) := by decide +kernel
theorem d_MD_heard_69 : decode Y_MD_heard.2.1 69 = .ok (.iadd, 1) := by decide +kernel
theorem d_MD_heard_70 : decode Y_MD_heard.2.1 70 = .ok (.imul, 1) := by decide +kernel
theorem d_MD_heard_71 : decode Y_MD_heard.2.1 71 = .ok (.iadd, 1) := by decide +kernel
theorem d_MD_heard_72 : decode Y_MD_heard.2.1 72 = .ok (.iload_n 3, 1) := by decide +kernel
theorem d_MD_heard_73 : decode Y_MD_heard.2.1 73 = .ok (.iadd, 1) := by decide +kernel
theorem d_MD_heard_74 : decode Y_MD_heard.2.1 74 = .ok (.iaload, 1) := by decide +kernel
theorem d_MD_heard_75 : decode Y_MD_heard.2.1 75 = .ok (.goto (12), 3) := by decide +kernel
theorem d_MD_heard_78 : decode Y_MD_heard.2.1 78 = .ok (.aload_n 0, 1) := by decide +kernel
theorem d_MD_heard_79 : decode Y_MD_heard.2.1 79 = .ok (.getfield 13, 3) := by decide +kernel
theorem d_MD_heard_82 : decode Y_MD_heard.2.1 82 = .ok (.iload_n 1, 1) := by decide +kernel
theorem d_MD_heard_83 : decode Y_MD_heard.2.1 83 = .ok (.iload_n 2, 1) := by decide +kernel
theorem d_MD_heard_84 : decode Y_MD_heard.2.1 84 = .ok (.invokestatic 203, 3) := by decide +kernel
theorem d_MD_heard_87 : decode Y_MD_heard.2.1 87 = .ok (.ireturn, 1) := by decide +kernel
def f_MD_heard (w : zW) (D : zD) (a : Nat) (x1 : Int32) (x2 : Int32) (x3 : Int32) : Option (Int32 × zD) := zjp (fun (s0 : Nat) (s1 : Int32) (D1 : zD) => zobj w 8 s0 (zci (f_MD_refused w D1 s0 s1) (fun v2 D3 => (if v2 = 0 then zjp (fun (s0 : Int32) (D4 : zD) => some (s0, D4)) (fun j87 => (if (5 : Int32) ≤ x3 then zref w 8 3 a (fun p5 => zci (f_MD_sounds w D3 p5 x1 x2) (fun v6 D7 => j87 v6 D7)) else zref w 8 3 a (fun p8 => zald w D3 0 p8 (((65 : Int32) + ((6 : Int32) * (((4 : Int32) * x1) + x2))) + x3) (fun v9 => j87 v9 D3)))) else some ((0 : Int32), D3))))) (fun j44 => zjp (fun (s0 : Nat) (D10 : zD) => j44 s0 (1 : Int32) D10) (fun j23 => zref w 8 3 a (fun p11 => zci (f_MD_isHearer w D p11 x1) (fun v12 D13 => (if v12 = 0 then j23 a D13 else zref w 8 3 a (fun p14 => zci (f_MD_isSiren w D13 p14 x2) (fun v15 D16 => (if v15 = 0 then j23 a D16 else zci (f_MD_in w D16 x3.toInt64 (0 : Int64) (5 : Int64)) (fun v17 D18 => (if v17 = 0 then j44 a (2 : Int32) D18 else j44 a (0 : Int32) D18))))))))))
set_option maxHeartbeats 4000000 in
set_option maxRecDepth 100000 in
theorem c_MD_heard (z : zT) (D : zD) (a : Nat) (x1 : Int32) (x2 : Int32) (x3 : Int32) : zM Y_MD_heard 3 0 0 (zqI z) (f_MD_heard z.2 D a x1 x2 x3) [.ref a, .int x1, .int x2, .int x3] z D := by
  refine zM_of (plainFor_of_name (by decide +kernel)) rfl (Nat.le_of_ble_eq_true rfl) (fun _ _ _ _ h => nomatch h.1) (fun K => ?_)
  unfold f_MD_heard
  refine z_jp (fun j44 : Nat → Int32 → zD → Option (Int32 × zD) => ∀ (s0 : Nat) (s1 : Int32) (D1 : zD), zGO K Y_MD_heard 3 0 0 (zqI z) (j44 s0 s1 D1) 0 0 z D1 44 [(0, .ref a), (1, .int x1), (2, .int x2), (3, .int x3)] [.int s1, .ref s0]) (fun s0 s1 D1 => ?_) (fun j44 h44 => ?_)
  · refine z_callVi (pc := 44) [.int s1] lkV_MD_127 rfl (c_MD_refused z D1 s0 s1) (by decide) rfl rfl (Nat.le_of_ble_eq_true rfl) d_MD_heard_44 (fun v2 D3 => ?_)
    refine z_if_eq (pc := 47) (tgt := 52) d_MD_heard_47 (by decide) ?_ ?_
    · refine z_jp (fun j87 : Int32 → zD → Option (Int32 × zD) => ∀ (s0 : Int32) (D4 : zD), zGO K Y_MD_heard 3 0 0 (zqI z) (j87 s0 D4) 0 0 z D4 87 [] [.int s0]) (fun s0 D4 => ?_) (fun j87 h87 => ?_)
      · exact z_iret (pc := 87) d_MD_heard_87 rfl
      · refine z_iload_n (pc := 52) d_MD_heard_52 rfl 3 rfl ?_
        refine z_iconst (pc := 53) d_MD_heard_53 ki_5 ?_
        refine z_icmp_ge (pc := 54) (tgt := 78) d_MD_heard_54 (by decide) ?_ ?_
        · refine z_aload_n (pc := 78) d_MD_heard_78 rfl 0 rfl ?_
          refine z_getR (pc := 79) fl_MD_13 d_MD_heard_79 (fun p5 => ?_)
          refine z_iload_n (pc := 82) d_MD_heard_82 rfl 1 rfl ?_
          refine z_iload_n (pc := 83) d_MD_heard_83 rfl 2 rfl ?_
          refine z_callSi (pc := 84) [.ref p5, .int x1, .int x2] lkS_MD_203 (c_MD_sounds z D3 p5 x1 x2) (by decide) rfl rfl (Nat.le_of_ble_eq_true rfl) d_MD_heard_84 (fun v6 D7 => ?_)
          exact z_sub [] rfl (h87 v6 D7)
        · refine z_aload_n (pc := 57) d_MD_heard_57 rfl 0 rfl ?_
          refine z_getR (pc := 58) fl_MD_13 d_MD_heard_58 (fun p8 => ?_)
          refine z_bipush (pc := 61) d_MD_heard_61 kb_65 ?_
          refine z_bipush (pc := 63) d_MD_heard_63 kb_6 ?_
          refine z_iconst (pc := 65) d_MD_heard_65 ki_4 ?_
          refine z_iload_n (pc := 66) d_MD_heard_66 rfl 1 rfl ?_
          refine z_imul (pc := 67) d_MD_heard_67 ?_
          refine z_iload_n (pc := 68) d_MD_heard_68 rfl 2 rfl ?_
          refine z_iadd (pc := 69) d_MD_heard_69 ?_
          refine z_imul (pc := 70) d_MD_heard_70 ?_
          refine z_iadd (pc := 71) d_MD_heard_71 ?_
          refine z_iload_n (pc := 72) d_MD_heard_72 rfl 3 rfl ?_
          refine z_iadd (pc := 73) d_MD_heard_73 ?_
          refine z_iaload (pc := 74) d_MD_heard_74 (fun v9 => ?_)
          refine z_goto (pc := 75) (tgt := 87) d_MD_heard_75 (by decide) ?_
          exact z_sub [] rfl (h87 v9 D3)
    · refine z_iconst (pc := 50) d_MD_heard_50 ki_0 ?_
      exact z_iret (pc := 51) d_MD_heard_51 rfl
  · refine z_jp (fun j23 : Nat → zD → Option (Int32 × zD) => ∀ (s0 : Nat) (D10 : zD), zGO K Y_MD_heard 3 0 0 (zqI z) (j23 s0 D10) 0 0 z D10 23 [(0, .ref a), (1, .int x1), (2, .int x2), (3, .int x3)] [.ref s0]) (fun s0 D10 => ?_) (fun j23 h23 => ?_)
    · refine z_iconst (pc := 23) d_MD_heard_23 ki_1 ?_
      refine z_goto (pc := 24) (tgt := 44) d_MD_heard_24 (by decide) ?_
      exact z_sub [0, 1, 2, 3] rfl (h44 s0 (1 : Int32) D10)
    · refine z_aload_n (pc := 0) d_MD_heard_0 rfl 0 rfl ?_
      refine z_aload_n (pc := 1) d_MD_heard_1 rfl 0 rfl ?_
      refine z_getR (pc := 2) fl_MD_13 d_MD_heard_2 (fun p11 => ?_)
      refine z_iload_n (pc := 5) d_MD_heard_5 rfl 1 rfl ?_
      refine z_callSi (pc := 6) [.ref p11, .int x1] lkS_MD_195 (c_MD_isHearer z D p11 x1) (by decide) rfl rfl (Nat.le_of_ble_eq_true rfl) d_MD_heard_6 (fun v12 D13 => ?_)
      refine z_if_eq (pc := 9) (tgt := 23) d_MD_heard_9 (by decide) ?_ ?_
      · exact z_sub [0, 1, 2, 3] rfl (h23 a D13)
      · refine z_aload_n (pc := 12) d_MD_heard_12 rfl 0 rfl ?_
        refine z_getR (pc := 13) fl_MD_13 d_MD_heard_13 (fun p14 => ?_)
        refine z_iload_n (pc := 16) d_MD_heard_16 rfl 2 rfl ?_
        refine z_callSi (pc := 17) [.ref p14, .int x2] lkS_MD_168 (c_MD_isSiren z D13 p14 x2) (by decide) rfl rfl (Nat.le_of_ble_eq_true rfl) d_MD_heard_17 (fun v15 D16 => ?_)
        refine z_if_ne (pc := 20) (tgt := 27) d_MD_heard_20 (by decide) ?_ ?_
        · exact z_sub [0, 1, 2, 3] rfl (h23 a D16)
        · refine z_iload_n (pc := 27) d_MD_heard_27 rfl 3 rfl ?_
          refine z_i2l (pc := 28) d_MD_heard_28 ?_
          refine z_lconst (pc := 29) d_MD_heard_29 (v := 0) rfl ?_
          refine z_ldc2 (pc := 30) w_k_MD_198 d_MD_heard_30 ?_
          refine z_callSi (pc := 33) [.long x3.toInt64, .long (0 : Int64), .long (5 : Int64)] lkS_MD_37 (c_MD_in z D16 x3.toInt64 (0 : Int64) (5 : Int64)) (by decide) rfl rfl (Nat.le_of_ble_eq_true rfl) d_MD_heard_33 (fun v17 D18 => ?_)
          refine z_if_eq (pc := 36) (tgt := 43) d_MD_heard_36 (by decide) ?_ ?_
          · refine z_iconst (pc := 43) d_MD_heard_43 ki_2 ?_
            exact z_sub [0, 1, 2, 3] rfl (h44 a (2 : Int32) D18)
          · refine z_iconst (pc := 39) d_MD_heard_39 ki_0 ?_
            refine z_goto (pc := 40) (tgt := 44) d_MD_heard_40 (by decide) ?_
            exact z_sub [0, 1, 2, 3] rfl (h44 a (0 : Int32) D18)
theorem d_MD_siren_0 : decode Y_MD_siren.2.1 0 = .ok (.iload_n 1, 1) := by decide +kernel
theorem d_MD_siren_1 : decode Y_MD_siren.2.1 1 = .ok (.iload_n 2, 1) := by decide +kernel
theorem d_MD_siren_2 : decode Y_MD_siren.2.1 2 = .ok (.invokestatic 206, 3) := by decide +kernel
theorem d_MD_siren_5 : decode Y_MD_siren.2.1 5 = .ok (.ifCond .eq (47), 3) := by decide +kernel
theorem d_MD_siren_8 : decode Y_MD_siren.2.1 8 = .ok (.iload_n 3, 1) := by decide +kernel
theorem d_MD_siren_9 : decode Y_MD_siren.2.1 9 = .ok (.i2l, 1) := by decide +kernel
theorem d_MD_siren_10 : decode Y_MD_siren.2.1 10 = .ok (.lconst 1, 1) := by decide +kernel
theorem d_MD_siren_11 : decode Y_MD_siren.2.1 11 = .ok (.ldc2_w 198, 3) := by decide +kernel
theorem d_MD_siren_14 : decode Y_MD_siren.2.1 14 = .ok (.invokestatic 37, 3) := by decide +kernel
theorem d_MD_siren_17 : decode Y_MD_siren.2.1 17 = .ok (.ifCond .eq (35), 3) := by decide +kernel
theorem d_MD_siren_20 : decode Y_MD_siren.2.1 20 = .ok (.iload 4, 2) := by decide +kernel
theorem d_MD_siren_22 : decode Y_MD_siren.2.1 22 = .ok (.i2l, 1) := by decide +kernel
theorem d_MD_siren_23 : decode Y_MD_siren.2.1 23 = .ok (.ldc2_w 210, 3) := by decide +kernel
theorem d_MD_siren_26 : decode Y_MD_siren.2.1 26 = .ok (.ldc2_w 212, 3) := by decide +kernel
theorem d_MD_siren_29 : decode Y_MD_siren.2.1 29 = .ok (.invokestatic 37, 3) := by decide +kernel
theorem d_MD_siren_32 : decode Y_MD_siren.2.1 32 = .ok (.ifCond .eq (20), 3) := by decide +kernel
theorem d_MD_siren_35 : decode Y_MD_siren.2.1 35 = .ok (.iload 5, 2) := by decide +kernel
theorem d_MD_siren_37 : decode Y_MD_siren.2.1 37 = .ok (.i2l, 1) := by decide +kernel
theorem d_MD_siren_38 : decode Y_MD_siren.2.1 38 = .ok (.lconst 1, 1) := by decide +kernel
theorem d_MD_siren_39 : decode Y_MD_siren.2.1 39 = .ok (.ldc2_w 214, 3) := by decide +kernel
theorem d_MD_siren_42 : decode Y_MD_siren.2.1 42 = .ok (.invokestatic 37, 3) := by decide +kernel
theorem d_MD_siren_45 : decode Y_MD_siren.2.1 45 = .ok (.ifCond .eq (7), 3) := by decide +kernel
theorem d_MD_siren_48 : decode Y_MD_siren.2.1 48 = .ok (.iconst (1), 1) := by decide +kernel
theorem d_MD_siren_49 : decode Y_MD_siren.2.1 49 = .ok (.goto (4), 3) := by decide +kernel
theorem d_MD_siren_52 : decode Y_MD_siren.2.1 52 = .ok (.iconst (0), 1) := by decide +kernel
theorem d_MD_siren_53 : decode Y_MD_siren.2.1 53 = .ok (.istore 6, 2) := by decide +kernel
theorem d_MD_siren_55 : decode Y_MD_siren.2.1 55 = .ok (.aload_n 0, 1) := by decide +kernel
theorem d_MD_siren_56 : decode Y_MD_siren.2.1 56 = .ok (.iload 6, 2) := by decide +kernel
theorem d_MD_siren_58 : decode Y_MD_siren.2.1 58 = .ok (.ifCond .ne (7), 3) := by decide +kernel
theorem d_MD_siren_61 : decode Y_MD_siren.2.1 61 = .ok (.iconst (1), 1) := by decide +kernel
theorem d_MD_siren_62 : decode Y_MD_siren.2.1 62 = .ok (.goto (18), 3) := by decide +kernel
theorem d_MD_siren_65 : decode Y_MD_siren.2.1 65 = .ok (.aload_n 0, 1) := by decide +kernel
theorem d_MD_siren_66 : decode Y_MD_siren.2.1 66 = .ok (.getfield 13, 3) := by decide +kernel
theorem d_MD_siren_69 : decode Y_MD_siren.2.1 69 = .ok (.iconst (0), 1) := by decide +kernel
theorem d_MD_siren_70 : decode Y_MD_siren.2.1 70 = .ok (.iaload, 1) := by decide +kernel
theorem d_MD_siren_71 : decode Y_MD_siren.2.1 71 = .ok (.iconst (4), 1) := by decide +kernel
theorem d_MD_siren_72 : decode Y_MD_siren.2.1 72 = .ok (.if_icmp .ge (7), 3) := by decide +kernel
theorem d_MD_siren_75 : decode Y_MD_siren.2.1 75 = .ok (.iconst (0), 1) := by decide +kernel
theorem d_MD_siren_76 : decode Y_MD_siren.2.1 76 = .ok (.goto (4), 3) := by decide +kernel
theorem d_MD_siren_79 : decode Y_MD_siren.2.1 79 = .ok (.iconst (2), 1) := by decide +kernel
theorem d_MD_siren_80 : decode Y_MD_siren.2.1 80 = .ok (.invokevirtual 127, 3) := by decide +kernel
theorem d_MD_siren_83 : decode Y_MD_siren.2.1 83 = .ok (.ifCond .eq (5), 3) := by decide +kernel
theorem d_MD_siren_86 : decode Y_MD_siren.2.1 86 = .ok (.iconst (0), 1) := by decide +kernel
theorem d_MD_siren_87 : decode Y_MD_siren.2.1 87 = .ok (.ireturn, 1) := by decide +kernel
theorem d_MD_siren_88 : decode Y_MD_siren.2.1 88 = .ok (.aload_n 0, 1) := by decide +kernel
theorem d_MD_siren_89 : decode Y_MD_siren.2.1 89 = .ok (.invokevirtual 216, 3) := by decide +kernel
theorem d_MD_siren_92 : decode Y_MD_siren.2.1 92 = .ok (.aload_n 0, 1) := by decide +kernel
theorem d_MD_siren_93 : decode Y_MD_siren.2.1 93 = .ok (.getfield 13, 3) := by decide +kernel
theorem d_MD_siren_96 : decode Y_MD_siren.2.1 96 = .ok (.iload_n 1, 1) := by decide +kernel
theorem d_MD_siren_97 : decode Y_MD_siren.2.1 97 = .ok (.iload_n 2, 1) := by decide +kernel
theorem d_MD_siren_98 : decode Y_MD_siren.2.1 98 = .ok (.iload_n 3, 1) := by decide +kernel
theorem d_MD_siren_99 : decode Y_MD_siren.2.1 99 = .ok (.iload 4, 2) := by decide +kernel
theorem d_MD_siren_101 : decode Y_MD_siren.2.1 101 = .ok (.iload 5, 2) := by decide +kernel
theorem d_MD_siren_103 : decode Y_MD_siren.2.1 103 = .ok (.invokestatic 141, 3) := by decide +kernel
theorem d_MD_siren_106 : decode Y_MD_siren.2.1 106 = .ok (.ireturn, 1) := by decide +kernel
def f_MD_siren (w : zW) (D : zD) (a : Nat) (x1 : Int32) (x2 : Int32) (x3 : Int32) (x4 : Int32) (x5 : Int32) : Option (Int32 × zD) := zjp (fun (s0 : Int32) (D1 : zD) => zjp (fun (s0 : Nat) (s1 : Int32) (D2 : zD) => zobj w 8 s0 (zci (f_MD_refused w D2 s0 s1) (fun v3 D4 => (if v3 = 0 then zobj w 8 a (zcv (f_MD_remember w D4 a ) (fun D5 => zref w 8 3 a (fun p6 => zci (f_MD_sirenOn w D5 p6 x1 x2 x3 x4 x5) (fun v7 D8 => some (v7, D8))))) else some ((0 : Int32), D4))))) (fun j80 => (if s0 = 0 then j80 a (1 : Int32) D1 else zref w 8 3 a (fun p9 => zald w D1 0 p9 (0 : Int32) (fun v10 => (if (4 : Int32) ≤ v10 then j80 a (2 : Int32) D1 else j80 a (0 : Int32) D1)))))) (fun j53 => zjp (fun (D11 : zD) => j53 (0 : Int32) D11) (fun j52 => zci (f_MD_isCentre w D x1 x2) (fun v12 D13 => (if v12 = 0 then j52 D13 else zci (f_MD_in w D13 x3.toInt64 (1 : Int64) (5 : Int64)) (fun v14 D15 => (if v14 = 0 then j52 D15 else zci (f_MD_in w D15 x4.toInt64 (-3 : Int64) (3 : Int64)) (fun v16 D17 => (if v16 = 0 then j52 D17 else zci (f_MD_in w D17 x5.toInt64 (1 : Int64) (20 : Int64)) (fun v18 D19 => (if v18 = 0 then j52 D19 else j53 (1 : Int32) D19))))))))))
set_option maxHeartbeats 4000000 in
set_option maxRecDepth 100000 in
theorem c_MD_siren (z : zT) (D : zD) (a : Nat) (x1 : Int32) (x2 : Int32) (x3 : Int32) (x4 : Int32) (x5 : Int32) : zM Y_MD_siren 3 0 0 (zqI z) (f_MD_siren z.2 D a x1 x2 x3 x4 x5) [.ref a, .int x1, .int x2, .int x3, .int x4, .int x5] z D := by
  refine zM_of (plainFor_of_name (by decide +kernel)) rfl (Nat.le_of_ble_eq_true rfl) (fun _ _ _ _ h => nomatch h.1) (fun K => ?_)
  unfold f_MD_siren
  refine z_jp (fun j53 : Int32 → zD → Option (Int32 × zD) => ∀ (s0 : Int32) (D1 : zD), zGO K Y_MD_siren 3 0 0 (zqI z) (j53 s0 D1) 0 0 z D1 53 [(0, .ref a), (1, .int x1), (2, .int x2), (3, .int x3), (4, .int x4), (5, .int x5)] [.int s0]) (fun s0 D1 => ?_) (fun j53 h53 => ?_)
  · refine z_jp (fun j80 : Nat → Int32 → zD → Option (Int32 × zD) => ∀ (s0 : Nat) (s1 : Int32) (D2 : zD), zGO K Y_MD_siren 3 0 0 (zqI z) (j80 s0 s1 D2) 0 0 z D2 80 [(0, .ref a), (1, .int x1), (2, .int x2), (3, .int x3), (4, .int x4), (5, .int x5)] [.int s1, .ref s0]) (fun s0 s1 D2 => ?_) (fun j80 h80 => ?_)
    · refine z_callVi (pc := 80) [.int s1] lkV_MD_127 rfl (c_MD_refused z D2 s0 s1) (by decide) rfl rfl (Nat.le_of_ble_eq_true rfl) d_MD_siren_80 (fun v3 D4 => ?_)
      refine z_if_eq (pc := 83) (tgt := 88) d_MD_siren_83 (by decide) ?_ ?_
      · refine z_aload_n (pc := 88) d_MD_siren_88 rfl 0 rfl ?_
        refine z_callVv (pc := 89) [] lkV_MD_216 rfl (c_MD_remember z D4 a ) (by decide) rfl rfl (Nat.le_of_ble_eq_true rfl) d_MD_siren_89 (fun D5 => ?_)
        refine z_aload_n (pc := 92) d_MD_siren_92 rfl 0 rfl ?_
        refine z_getR (pc := 93) fl_MD_13 d_MD_siren_93 (fun p6 => ?_)
        refine z_iload_n (pc := 96) d_MD_siren_96 rfl 1 rfl ?_
        refine z_iload_n (pc := 97) d_MD_siren_97 rfl 2 rfl ?_
        refine z_iload_n (pc := 98) d_MD_siren_98 rfl 3 rfl ?_
        refine z_iload (pc := 99) d_MD_siren_99 4 rfl ?_
        refine z_iload (pc := 101) d_MD_siren_101 5 rfl ?_
        refine z_callSi (pc := 103) [.ref p6, .int x1, .int x2, .int x3, .int x4, .int x5] lkS_MD_141 (c_MD_sirenOn z D5 p6 x1 x2 x3 x4 x5) (by decide) rfl rfl (Nat.le_of_ble_eq_true rfl) d_MD_siren_103 (fun v7 D8 => ?_)
        exact z_iret (pc := 106) d_MD_siren_106 rfl
      · refine z_iconst (pc := 86) d_MD_siren_86 ki_0 ?_
        exact z_iret (pc := 87) d_MD_siren_87 rfl
    · refine z_istore (pc := 53) d_MD_siren_53 (by decide) (lv' := [(6, .int s0), (0, .ref a), (1, .int x1), (2, .int x2), (3, .int x3), (4, .int x4), (5, .int x5)]) rfl ?_
      refine z_aload_n (pc := 55) d_MD_siren_55 rfl 1 rfl ?_
      refine z_iload (pc := 56) d_MD_siren_56 0 rfl ?_
      refine z_if_ne (pc := 58) (tgt := 65) d_MD_siren_58 (by decide) ?_ ?_
      · refine z_iconst (pc := 61) d_MD_siren_61 ki_1 ?_
        refine z_goto (pc := 62) (tgt := 80) d_MD_siren_62 (by decide) ?_
        exact z_sub [1, 2, 3, 4, 5, 6] rfl (h80 a (1 : Int32) D1)
      · refine z_aload_n (pc := 65) d_MD_siren_65 rfl 1 rfl ?_
        refine z_getR (pc := 66) fl_MD_13 d_MD_siren_66 (fun p9 => ?_)
        refine z_iconst (pc := 69) d_MD_siren_69 ki_0 ?_
        refine z_iaload (pc := 70) d_MD_siren_70 (fun v10 => ?_)
        refine z_iconst (pc := 71) d_MD_siren_71 ki_4 ?_
        refine z_icmp_ge (pc := 72) (tgt := 79) d_MD_siren_72 (by decide) ?_ ?_
        · refine z_iconst (pc := 79) d_MD_siren_79 ki_2 ?_
          exact z_sub [1, 2, 3, 4, 5, 6] rfl (h80 a (2 : Int32) D1)
        · refine z_iconst (pc := 75) d_MD_siren_75 ki_0 ?_
          refine z_goto (pc := 76) (tgt := 80) d_MD_siren_76 (by decide) ?_
          exact z_sub [1, 2, 3, 4, 5, 6] rfl (h80 a (0 : Int32) D1)
  · refine z_jp (fun j52 : zD → Option (Int32 × zD) => ∀ (D11 : zD), zGO K Y_MD_siren 3 0 0 (zqI z) (j52  D11) 0 0 z D11 52 [(0, .ref a), (1, .int x1), (2, .int x2), (3, .int x3), (4, .int x4), (5, .int x5)] []) (fun  D11 => ?_) (fun j52 h52 => ?_)
    · refine z_iconst (pc := 52) d_MD_siren_52 ki_0 ?_
      exact z_sub [0, 1, 2, 3, 4, 5] rfl (h53 (0 : Int32) D11)
    · refine z_iload_n (pc := 0) d_MD_siren_0 rfl 1 rfl ?_
      refine z_iload_n (pc := 1) d_MD_siren_1 rfl 2 rfl ?_
      refine z_callSi (pc := 2) [.int x1, .int x2] lkS_MD_206 (c_MD_isCentre z D x1 x2) (by decide) rfl rfl (Nat.le_of_ble_eq_true rfl) d_MD_siren_2 (fun v12 D13 => ?_)
      refine z_if_eq (pc := 5) (tgt := 52) d_MD_siren_5 (by decide) ?_ ?_
      · exact z_sub [0, 1, 2, 3, 4, 5] rfl (h52 D13)
      · refine z_iload_n (pc := 8) d_MD_siren_8 rfl 3 rfl ?_
        refine z_i2l (pc := 9) d_MD_siren_9 ?_
        refine z_lconst (pc := 10) d_MD_siren_10 (v := 1) rfl ?_
        refine z_ldc2 (pc := 11) w_k_MD_198 d_MD_siren_11 ?_
        refine z_callSi (pc := 14) [.long x3.toInt64, .long (1 : Int64), .long (5 : Int64)] lkS_MD_37 (c_MD_in z D13 x3.toInt64 (1 : Int64) (5 : Int64)) (by decide) rfl rfl (Nat.le_of_ble_eq_true rfl) d_MD_siren_14 (fun v14 D15 => ?_)
        refine z_if_eq (pc := 17) (tgt := 52) d_MD_siren_17 (by decide) ?_ ?_
        · exact z_sub [0, 1, 2, 3, 4, 5] rfl (h52 D15)
        · refine z_iload (pc := 20) d_MD_siren_20 4 rfl ?_
          refine z_i2l (pc := 22) d_MD_siren_22 ?_
          refine z_ldc2 (pc := 23) w_k_MD_210 d_MD_siren_23 ?_
          refine z_ldc2 (pc := 26) w_k_MD_212 d_MD_siren_26 ?_
          refine z_callSi (pc := 29) [.long x4.toInt64, .long (-3 : Int64), .long (3 : Int64)] lkS_MD_37 (c_MD_in z D15 x4.toInt64 (-3 : Int64) (3 : Int64)) (by decide) rfl rfl (Nat.le_of_ble_eq_true rfl) d_MD_siren_29 (fun v16 D17 => ?_)
          refine z_if_eq (pc := 32) (tgt := 52) d_MD_siren_32 (by decide) ?_ ?_
          · exact z_sub [0, 1, 2, 3, 4, 5] rfl (h52 D17)
          · refine z_iload (pc := 35) d_MD_siren_35 5 rfl ?_
            refine z_i2l (pc := 37) d_MD_siren_37 ?_
            refine z_lconst (pc := 38) d_MD_siren_38 (v := 1) rfl ?_
            refine z_ldc2 (pc := 39) w_k_MD_214 d_MD_siren_39 ?_
            refine z_callSi (pc := 42) [.long x5.toInt64, .long (1 : Int64), .long (20 : Int64)] lkS_MD_37 (c_MD_in z D17 x5.toInt64 (1 : Int64) (20 : Int64)) (by decide) rfl rfl (Nat.le_of_ble_eq_true rfl) d_MD_siren_42 (fun v18 D19 => ?_)
            refine z_if_eq (pc := 45) (tgt := 52) d_MD_siren_45 (by decide) ?_ ?_
            · exact z_sub [0, 1, 2, 3, 4, 5] rfl (h52 D19)
            · refine z_iconst (pc := 48) d_MD_siren_48 ki_1 ?_
              refine z_goto (pc := 49) (tgt := 53) d_MD_siren_49 (by decide) ?_
              exact z_sub [0, 1, 2, 3, 4, 5] rfl (h53 (1 : Int32) D19)
theorem d_MD_hearer_0 : decode Y_MD_hearer.2.1 0 = .ok (.aload_n 0, 1) := by decide +kernel
theorem d_MD_hearer_1 : decode Y_MD_hearer.2.1 1 = .ok (.iload_n 1, 1) := by decide +kernel
theorem d_MD_hearer_2 : decode Y_MD_hearer.2.1 2 = .ok (.iload_n 2, 1) := by decide +kernel
theorem d_MD_hearer_3 : decode Y_MD_hearer.2.1 3 = .ok (.invokestatic 219, 3) := by decide +kernel
theorem d_MD_hearer_6 : decode Y_MD_hearer.2.1 6 = .ok (.ifCond .eq (12), 3) := by decide +kernel
theorem d_MD_hearer_9 : decode Y_MD_hearer.2.1 9 = .ok (.iload_n 3, 1) := by decide +kernel
theorem d_MD_hearer_10 : decode Y_MD_hearer.2.1 10 = .ok (.iload 4, 2) := by decide +kernel
theorem d_MD_hearer_12 : decode Y_MD_hearer.2.1 12 = .ok (.invokestatic 222, 3) := by decide +kernel
theorem d_MD_hearer_15 : decode Y_MD_hearer.2.1 15 = .ok (.ifCond .ne (7), 3) := by decide +kernel
theorem d_MD_hearer_18 : decode Y_MD_hearer.2.1 18 = .ok (.iconst (1), 1) := by decide +kernel
theorem d_MD_hearer_19 : decode Y_MD_hearer.2.1 19 = .ok (.goto (18), 3) := by decide +kernel
theorem d_MD_hearer_22 : decode Y_MD_hearer.2.1 22 = .ok (.aload_n 0, 1) := by decide +kernel
theorem d_MD_hearer_23 : decode Y_MD_hearer.2.1 23 = .ok (.getfield 13, 3) := by decide +kernel
theorem d_MD_hearer_26 : decode Y_MD_hearer.2.1 26 = .ok (.iconst (1), 1) := by decide +kernel
theorem d_MD_hearer_27 : decode Y_MD_hearer.2.1 27 = .ok (.iaload, 1) := by decide +kernel
theorem d_MD_hearer_28 : decode Y_MD_hearer.2.1 28 = .ok (.iconst (4), 1) := by decide +kernel
theorem d_MD_hearer_29 : decode Y_MD_hearer.2.1 29 = .ok (.if_icmp .ge (7), 3) := by decide +kernel
theorem d_MD_hearer_32 : decode Y_MD_hearer.2.1 32 = .ok (.iconst (0), 1) := by decide +kernel
theorem d_MD_hearer_33 : decode Y_MD_hearer.2.1 33 = .ok (.goto (4), 3) := by decide +kernel
theorem d_MD_hearer_36 : decode Y_MD_hearer.2.1 36 = .ok (.iconst (2), 1) := by decide +kernel
theorem d_MD_hearer_37 : decode Y_MD_hearer.2.1 37 = .ok (.invokevirtual 127, 3) := by decide +kernel
theorem d_MD_hearer_40 : decode Y_MD_hearer.2.1 40 = .ok (.ifCond .eq (5), 3) := by decide +kernel
theorem d_MD_hearer_43 : decode Y_MD_hearer.2.1 43 = .ok (.iconst (0), 1) := by decide +kernel
theorem d_MD_hearer_44 : decode Y_MD_hearer.2.1 44 = .ok (.ireturn, 1) := by decide +kernel
theorem d_MD_hearer_45 : decode Y_MD_hearer.2.1 45 = .ok (.aload_n 0, 1) := by decide +kernel
theorem d_MD_hearer_46 : decode Y_MD_hearer.2.1 46 = .ok (.invokevirtual 216, 3) := by decide +kernel
theorem d_MD_hearer_49 : decode Y_MD_hearer.2.1 49 = .ok (.aload_n 0, 1) := by decide +kernel
theorem d_MD_hearer_50 : decode Y_MD_hearer.2.1 50 = .ok (.getfield 13, 3) := by decide +kernel
theorem d_MD_hearer_53 : decode Y_MD_hearer.2.1 53 = .ok (.iload_n 1, 1) := by decide +kernel
theorem d_MD_hearer_54 : decode Y_MD_hearer.2.1 54 = .ok (.iload_n 2, 1) := by decide +kernel
theorem d_MD_hearer_55 : decode Y_MD_hearer.2.1 55 = .ok (.iload_n 3, 1) := by decide +kernel
theorem d_MD_hearer_56 : decode Y_MD_hearer.2.1 56 = .ok (.iload 4, 2) := by decide +kernel
theorem d_MD_hearer_58 : decode Y_MD_hearer.2.1 58 = .ok (.invokestatic 149, 3) := by decide +kernel
theorem d_MD_hearer_61 : decode Y_MD_hearer.2.1 61 = .ok (.ireturn, 1) := by decide +kernel
def f_MD_hearer (w : zW) (D : zD) (a : Nat) (x1 : Int32) (x2 : Int32) (x3 : Int32) (x4 : Int32) : Option (Int32 × zD) := zjp (fun (s0 : Nat) (s1 : Int32) (D1 : zD) => zobj w 8 s0 (zci (f_MD_refused w D1 s0 s1) (fun v2 D3 => (if v2 = 0 then zobj w 8 a (zcv (f_MD_remember w D3 a ) (fun D4 => zref w 8 3 a (fun p5 => zci (f_MD_hearerOn w D4 p5 x1 x2 x3 x4) (fun v6 D7 => some (v6, D7))))) else some ((0 : Int32), D3))))) (fun j37 => zjp (fun (s0 : Nat) (D8 : zD) => j37 s0 (1 : Int32) D8) (fun j18 => zci (f_MD_isPlace w D x1 x2) (fun v9 D10 => (if v9 = 0 then j18 a D10 else zci (f_MD_isWay w D10 x3 x4) (fun v11 D12 => (if v11 = 0 then j18 a D12 else zref w 8 3 a (fun p13 => zald w D12 0 p13 (1 : Int32) (fun v14 => (if (4 : Int32) ≤ v14 then j37 a (2 : Int32) D12 else j37 a (0 : Int32) D12)))))))))
set_option maxHeartbeats 4000000 in
set_option maxRecDepth 100000 in
theorem c_MD_hearer (z : zT) (D : zD) (a : Nat) (x1 : Int32) (x2 : Int32) (x3 : Int32) (x4 : Int32) : zM Y_MD_hearer 3 0 0 (zqI z) (f_MD_hearer z.2 D a x1 x2 x3 x4) [.ref a, .int x1, .int x2, .int x3, .int x4] z D := by
  refine zM_of (plainFor_of_name (by decide +kernel)) rfl (Nat.le_of_ble_eq_true rfl) (fun _ _ _ _ h => nomatch h.1) (fun K => ?_)
  unfold f_MD_hearer
  refine z_jp (fun j37 : Nat → Int32 → zD → Option (Int32 × zD) => ∀ (s0 : Nat) (s1 : Int32) (D1 : zD), zGO K Y_MD_hearer 3 0 0 (zqI z) (j37 s0 s1 D1) 0 0 z D1 37 [(0, .ref a), (1, .int x1), (2, .int x2), (3, .int x3), (4, .int x4)] [.int s1, .ref s0]) (fun s0 s1 D1 => ?_) (fun j37 h37 => ?_)
  · refine z_callVi (pc := 37) [.int s1] lkV_MD_127 rfl (c_MD_refused z D1 s0 s1) (by decide) rfl rfl (Nat.le_of_ble_eq_true rfl) d_MD_hearer_37 (fun v2 D3 => ?_)
    refine z_if_eq (pc := 40) (tgt := 45) d_MD_hearer_40 (by decide) ?_ ?_
    · refine z_aload_n (pc := 45) d_MD_hearer_45 rfl 0 rfl ?_
      refine z_callVv (pc := 46) [] lkV_MD_216 rfl (c_MD_remember z D3 a ) (by decide) rfl rfl (Nat.le_of_ble_eq_true rfl) d_MD_hearer_46 (fun D4 => ?_)
      refine z_aload_n (pc := 49) d_MD_hearer_49 rfl 0 rfl ?_
      refine z_getR (pc := 50) fl_MD_13 d_MD_hearer_50 (fun p5 => ?_)
      refine z_iload_n (pc := 53) d_MD_hearer_53 rfl 1 rfl ?_
      refine z_iload_n (pc := 54) d_MD_hearer_54 rfl 2 rfl ?_
      refine z_iload_n (pc := 55) d_MD_hearer_55 rfl 3 rfl ?_
      refine z_iload (pc := 56) d_MD_hearer_56 4 rfl ?_
      refine z_callSi (pc := 58) [.ref p5, .int x1, .int x2, .int x3, .int x4] lkS_MD_149 (c_MD_hearerOn z D4 p5 x1 x2 x3 x4) (by decide) rfl rfl (Nat.le_of_ble_eq_true rfl) d_MD_hearer_58 (fun v6 D7 => ?_)
      exact z_iret (pc := 61) d_MD_hearer_61 rfl
    · refine z_iconst (pc := 43) d_MD_hearer_43 ki_0 ?_
      exact z_iret (pc := 44) d_MD_hearer_44 rfl
  · refine z_jp (fun j18 : Nat → zD → Option (Int32 × zD) => ∀ (s0 : Nat) (D8 : zD), zGO K Y_MD_hearer 3 0 0 (zqI z) (j18 s0 D8) 0 0 z D8 18 [(0, .ref a), (1, .int x1), (2, .int x2), (3, .int x3), (4, .int x4)] [.ref s0]) (fun s0 D8 => ?_) (fun j18 h18 => ?_)
    · refine z_iconst (pc := 18) d_MD_hearer_18 ki_1 ?_
      refine z_goto (pc := 19) (tgt := 37) d_MD_hearer_19 (by decide) ?_
      exact z_sub [0, 1, 2, 3, 4] rfl (h37 s0 (1 : Int32) D8)
    · refine z_aload_n (pc := 0) d_MD_hearer_0 rfl 0 rfl ?_
      refine z_iload_n (pc := 1) d_MD_hearer_1 rfl 1 rfl ?_
      refine z_iload_n (pc := 2) d_MD_hearer_2 rfl 2 rfl ?_
      refine z_callSi (pc := 3) [.int x1, .int x2] lkS_MD_219 (c_MD_isPlace z D x1 x2) (by decide) rfl rfl (Nat.le_of_ble_eq_true rfl) d_MD_hearer_3 (fun v9 D10 => ?_)
      refine z_if_eq (pc := 6) (tgt := 18) d_MD_hearer_6 (by decide) ?_ ?_
      · exact z_sub [0, 1, 2, 3, 4] rfl (h18 a D10)
      · refine z_iload_n (pc := 9) d_MD_hearer_9 rfl 3 rfl ?_
        refine z_iload (pc := 10) d_MD_hearer_10 4 rfl ?_
        refine z_callSi (pc := 12) [.int x3, .int x4] lkS_MD_222 (c_MD_isWay z D10 x3 x4) (by decide) rfl rfl (Nat.le_of_ble_eq_true rfl) d_MD_hearer_12 (fun v11 D12 => ?_)
        refine z_if_ne (pc := 15) (tgt := 22) d_MD_hearer_15 (by decide) ?_ ?_
        · exact z_sub [0, 1, 2, 3, 4] rfl (h18 a D12)
        · refine z_aload_n (pc := 22) d_MD_hearer_22 rfl 0 rfl ?_
          refine z_getR (pc := 23) fl_MD_13 d_MD_hearer_23 (fun p13 => ?_)
          refine z_iconst (pc := 26) d_MD_hearer_26 ki_1 ?_
          refine z_iaload (pc := 27) d_MD_hearer_27 (fun v14 => ?_)
          refine z_iconst (pc := 28) d_MD_hearer_28 ki_4 ?_
          refine z_icmp_ge (pc := 29) (tgt := 36) d_MD_hearer_29 (by decide) ?_ ?_
          · refine z_iconst (pc := 36) d_MD_hearer_36 ki_2 ?_
            exact z_sub [0, 1, 2, 3, 4] rfl (h37 a (2 : Int32) D12)
          · refine z_iconst (pc := 32) d_MD_hearer_32 ki_0 ?_
            refine z_goto (pc := 33) (tgt := 37) d_MD_hearer_33 (by decide) ?_
            exact z_sub [0, 1, 2, 3, 4] rfl (h37 a (0 : Int32) D12)
theorem d_MD_wall_0 : decode Y_MD_wall.2.1 0 = .ok (.aload_n 0, 1) := by decide +kernel
theorem d_MD_wall_1 : decode Y_MD_wall.2.1 1 = .ok (.iload_n 2, 1) := by decide +kernel
theorem d_MD_wall_2 : decode Y_MD_wall.2.1 2 = .ok (.i2l, 1) := by decide +kernel
theorem d_MD_wall_3 : decode Y_MD_wall.2.1 3 = .ok (.ldc2_w 118, 3) := by decide +kernel
theorem d_MD_wall_6 : decode Y_MD_wall.2.1 6 = .ok (.ldc2_w 120, 3) := by decide +kernel
theorem d_MD_wall_9 : decode Y_MD_wall.2.1 9 = .ok (.invokestatic 37, 3) := by decide +kernel
theorem d_MD_wall_12 : decode Y_MD_wall.2.1 12 = .ok (.ifCond .ne (7), 3) := by decide +kernel
theorem d_MD_wall_15 : decode Y_MD_wall.2.1 15 = .ok (.iconst (1), 1) := by decide +kernel
theorem d_MD_wall_16 : decode Y_MD_wall.2.1 16 = .ok (.goto (18), 3) := by decide +kernel
theorem d_MD_wall_19 : decode Y_MD_wall.2.1 19 = .ok (.aload_n 0, 1) := by decide +kernel
theorem d_MD_wall_20 : decode Y_MD_wall.2.1 20 = .ok (.getfield 13, 3) := by decide +kernel
theorem d_MD_wall_23 : decode Y_MD_wall.2.1 23 = .ok (.iconst (2), 1) := by decide +kernel
theorem d_MD_wall_24 : decode Y_MD_wall.2.1 24 = .ok (.iaload, 1) := by decide +kernel
theorem d_MD_wall_25 : decode Y_MD_wall.2.1 25 = .ok (.iconst (3), 1) := by decide +kernel
theorem d_MD_wall_26 : decode Y_MD_wall.2.1 26 = .ok (.if_icmp .ge (7), 3) := by decide +kernel
theorem d_MD_wall_29 : decode Y_MD_wall.2.1 29 = .ok (.iconst (0), 1) := by decide +kernel
theorem d_MD_wall_30 : decode Y_MD_wall.2.1 30 = .ok (.goto (4), 3) := by decide +kernel
theorem d_MD_wall_33 : decode Y_MD_wall.2.1 33 = .ok (.iconst (2), 1) := by decide +kernel
theorem d_MD_wall_34 : decode Y_MD_wall.2.1 34 = .ok (.invokevirtual 127, 3) := by decide +kernel
theorem d_MD_wall_37 : decode Y_MD_wall.2.1 37 = .ok (.ifCond .eq (5), 3) := by decide +kernel
theorem d_MD_wall_40 : decode Y_MD_wall.2.1 40 = .ok (.iconst (0), 1) := by decide +kernel
theorem d_MD_wall_41 : decode Y_MD_wall.2.1 41 = .ok (.ireturn, 1) := by decide +kernel
theorem d_MD_wall_42 : decode Y_MD_wall.2.1 42 = .ok (.aload_n 0, 1) := by decide +kernel
theorem d_MD_wall_43 : decode Y_MD_wall.2.1 43 = .ok (.invokevirtual 216, 3) := by decide +kernel
theorem d_MD_wall_46 : decode Y_MD_wall.2.1 46 = .ok (.aload_n 0, 1) := by decide +kernel
theorem d_MD_wall_47 : decode Y_MD_wall.2.1 47 = .ok (.getfield 13, 3) := by decide +kernel
theorem d_MD_wall_50 : decode Y_MD_wall.2.1 50 = .ok (.iload_n 1, 1) := by decide +kernel
theorem d_MD_wall_51 : decode Y_MD_wall.2.1 51 = .ok (.iload_n 2, 1) := by decide +kernel
theorem d_MD_wall_52 : decode Y_MD_wall.2.1 52 = .ok (.invokestatic 164, 3) := by decide +kernel
theorem d_MD_wall_55 : decode Y_MD_wall.2.1 55 = .ok (.ireturn, 1) := by decide +kernel
def f_MD_wall (w : zW) (D : zD) (a : Nat) (x1 : Int32) (x2 : Int32) : Option (Int32 × zD) := zjp (fun (s0 : Nat) (s1 : Int32) (D1 : zD) => zobj w 8 s0 (zci (f_MD_refused w D1 s0 s1) (fun v2 D3 => (if v2 = 0 then zobj w 8 a (zcv (f_MD_remember w D3 a ) (fun D4 => zref w 8 3 a (fun p5 => zci (f_MD_wallOn w D4 p5 x1 x2) (fun v6 D7 => some (v6, D7))))) else some ((0 : Int32), D3))))) (fun j34 => zci (f_MD_in w D x2.toInt64 (-40 : Int64) (40 : Int64)) (fun v8 D9 => (if v8 = 0 then j34 a (1 : Int32) D9 else zref w 8 3 a (fun p10 => zald w D9 0 p10 (2 : Int32) (fun v11 => (if (3 : Int32) ≤ v11 then j34 a (2 : Int32) D9 else j34 a (0 : Int32) D9))))))
set_option maxHeartbeats 4000000 in
set_option maxRecDepth 100000 in
theorem c_MD_wall (z : zT) (D : zD) (a : Nat) (x1 : Int32) (x2 : Int32) : zM Y_MD_wall 3 0 0 (zqI z) (f_MD_wall z.2 D a x1 x2) [.ref a, .int x1, .int x2] z D := by
  refine zM_of (plainFor_of_name (by decide +kernel)) rfl (Nat.le_of_ble_eq_true rfl) (fun _ _ _ _ h => nomatch h.1) (fun K => ?_)
  unfold f_MD_wall
  refine z_jp (fun j34 : Nat → Int32 → zD → Option (Int32 × zD) => ∀ (s0 : Nat) (s1 : Int32) (D1 : zD), zGO K Y_MD_wall 3 0 0 (zqI z) (j34 s0 s1 D1) 0 0 z D1 34 [(0, .ref a), (1, .int x1), (2, .int x2)] [.int s1, .ref s0]) (fun s0 s1 D1 => ?_) (fun j34 h34 => ?_)
  · refine z_callVi (pc := 34) [.int s1] lkV_MD_127 rfl (c_MD_refused z D1 s0 s1) (by decide) rfl rfl (Nat.le_of_ble_eq_true rfl) d_MD_wall_34 (fun v2 D3 => ?_)
    refine z_if_eq (pc := 37) (tgt := 42) d_MD_wall_37 (by decide) ?_ ?_
    · refine z_aload_n (pc := 42) d_MD_wall_42 rfl 0 rfl ?_
      refine z_callVv (pc := 43) [] lkV_MD_216 rfl (c_MD_remember z D3 a ) (by decide) rfl rfl (Nat.le_of_ble_eq_true rfl) d_MD_wall_43 (fun D4 => ?_)
      refine z_aload_n (pc := 46) d_MD_wall_46 rfl 0 rfl ?_
      refine z_getR (pc := 47) fl_MD_13 d_MD_wall_47 (fun p5 => ?_)
      refine z_iload_n (pc := 50) d_MD_wall_50 rfl 1 rfl ?_
      refine z_iload_n (pc := 51) d_MD_wall_51 rfl 2 rfl ?_
      refine z_callSi (pc := 52) [.ref p5, .int x1, .int x2] lkS_MD_164 (c_MD_wallOn z D4 p5 x1 x2) (by decide) rfl rfl (Nat.le_of_ble_eq_true rfl) d_MD_wall_52 (fun v6 D7 => ?_)
      exact z_iret (pc := 55) d_MD_wall_55 rfl
    · refine z_iconst (pc := 40) d_MD_wall_40 ki_0 ?_
      exact z_iret (pc := 41) d_MD_wall_41 rfl
  · refine z_aload_n (pc := 0) d_MD_wall_0 rfl 0 rfl ?_
    refine z_iload_n (pc := 1) d_MD_wall_1 rfl 2 rfl ?_
    refine z_i2l (pc := 2) d_MD_wall_2 ?_
    refine z_ldc2 (pc := 3) w_k_MD_118 d_MD_wall_3 ?_
    refine z_ldc2 (pc := 6) w_k_MD_120 d_MD_wall_6 ?_
    refine z_callSi (pc := 9) [.long x2.toInt64, .long (-40 : Int64), .long (40 : Int64)] lkS_MD_37 (c_MD_in z D x2.toInt64 (-40 : Int64) (40 : Int64)) (by decide) rfl rfl (Nat.le_of_ble_eq_true rfl) d_MD_wall_9 (fun v8 D9 => ?_)
    refine z_if_ne (pc := 12) (tgt := 19) d_MD_wall_12 (by decide) ?_ ?_
    · refine z_iconst (pc := 15) d_MD_wall_15 ki_1 ?_
      refine z_goto (pc := 16) (tgt := 34) d_MD_wall_16 (by decide) ?_
      exact z_sub [0, 1, 2] rfl (h34 a (1 : Int32) D9)
    · refine z_aload_n (pc := 19) d_MD_wall_19 rfl 0 rfl ?_
      refine z_getR (pc := 20) fl_MD_13 d_MD_wall_20 (fun p10 => ?_)
      refine z_iconst (pc := 23) d_MD_wall_23 ki_2 ?_
      refine z_iaload (pc := 24) d_MD_wall_24 (fun v11 => ?_)
      refine z_iconst (pc := 25) d_MD_wall_25 ki_3 ?_
      refine z_icmp_ge (pc := 26) (tgt := 33) d_MD_wall_26 (by decide) ?_ ?_
      · refine z_iconst (pc := 33) d_MD_wall_33 ki_2 ?_
        exact z_sub [0, 1, 2] rfl (h34 a (2 : Int32) D9)
      · refine z_iconst (pc := 29) d_MD_wall_29 ki_0 ?_
        refine z_goto (pc := 30) (tgt := 34) d_MD_wall_30 (by decide) ?_
        exact z_sub [0, 1, 2] rfl (h34 a (0 : Int32) D9)
theorem d_MD_turn_0 : decode Y_MD_turn.2.1 0 = .ok (.aload_n 0, 1) := by decide +kernel
theorem d_MD_turn_1 : decode Y_MD_turn.2.1 1 = .ok (.aload_n 0, 1) := by decide +kernel
theorem d_MD_turn_2 : decode Y_MD_turn.2.1 2 = .ok (.getfield 13, 3) := by decide +kernel
theorem d_MD_turn_5 : decode Y_MD_turn.2.1 5 = .ok (.iload_n 1, 1) := by decide +kernel
theorem d_MD_turn_6 : decode Y_MD_turn.2.1 6 = .ok (.invokestatic 168, 3) := by decide +kernel
theorem d_MD_turn_9 : decode Y_MD_turn.2.1 9 = .ok (.ifCond .eq (7), 3) := by decide +kernel
theorem d_MD_turn_12 : decode Y_MD_turn.2.1 12 = .ok (.iconst (0), 1) := by decide +kernel
theorem d_MD_turn_13 : decode Y_MD_turn.2.1 13 = .ok (.goto (4), 3) := by decide +kernel
theorem d_MD_turn_16 : decode Y_MD_turn.2.1 16 = .ok (.iconst (1), 1) := by decide +kernel
theorem d_MD_turn_17 : decode Y_MD_turn.2.1 17 = .ok (.invokevirtual 127, 3) := by decide +kernel
theorem d_MD_turn_20 : decode Y_MD_turn.2.1 20 = .ok (.ifCond .eq (5), 3) := by decide +kernel
theorem d_MD_turn_23 : decode Y_MD_turn.2.1 23 = .ok (.iconst (0), 1) := by decide +kernel
theorem d_MD_turn_24 : decode Y_MD_turn.2.1 24 = .ok (.ireturn, 1) := by decide +kernel
theorem d_MD_turn_25 : decode Y_MD_turn.2.1 25 = .ok (.aload_n 0, 1) := by decide +kernel
theorem d_MD_turn_26 : decode Y_MD_turn.2.1 26 = .ok (.invokevirtual 216, 3) := by decide +kernel
theorem d_MD_turn_29 : decode Y_MD_turn.2.1 29 = .ok (.aload_n 0, 1) := by decide +kernel
theorem d_MD_turn_30 : decode Y_MD_turn.2.1 30 = .ok (.getfield 13, 3) := by decide +kernel
theorem d_MD_turn_33 : decode Y_MD_turn.2.1 33 = .ok (.iload_n 1, 1) := by decide +kernel
theorem d_MD_turn_34 : decode Y_MD_turn.2.1 34 = .ok (.iload_n 2, 1) := by decide +kernel
theorem d_MD_turn_35 : decode Y_MD_turn.2.1 35 = .ok (.invokestatic 171, 3) := by decide +kernel
theorem d_MD_turn_38 : decode Y_MD_turn.2.1 38 = .ok (.ireturn, 1) := by decide +kernel
def f_MD_turn (w : zW) (D : zD) (a : Nat) (x1 : Int32) (x2 : Int32) : Option (Int32 × zD) := zjp (fun (s0 : Nat) (s1 : Int32) (D1 : zD) => zobj w 8 s0 (zci (f_MD_refused w D1 s0 s1) (fun v2 D3 => (if v2 = 0 then zobj w 8 a (zcv (f_MD_remember w D3 a ) (fun D4 => zref w 8 3 a (fun p5 => zci (f_MD_turnOn w D4 p5 x1 x2) (fun v6 D7 => some (v6, D7))))) else some ((0 : Int32), D3))))) (fun j17 => zref w 8 3 a (fun p8 => zci (f_MD_isSiren w D p8 x1) (fun v9 D10 => (if v9 = 0 then j17 a (1 : Int32) D10 else j17 a (0 : Int32) D10))))
set_option maxHeartbeats 4000000 in
set_option maxRecDepth 100000 in
theorem c_MD_turn (z : zT) (D : zD) (a : Nat) (x1 : Int32) (x2 : Int32) : zM Y_MD_turn 3 0 0 (zqI z) (f_MD_turn z.2 D a x1 x2) [.ref a, .int x1, .int x2] z D := by
  refine zM_of (plainFor_of_name (by decide +kernel)) rfl (Nat.le_of_ble_eq_true rfl) (fun _ _ _ _ h => nomatch h.1) (fun K => ?_)
  unfold f_MD_turn
  refine z_jp (fun j17 : Nat → Int32 → zD → Option (Int32 × zD) => ∀ (s0 : Nat) (s1 : Int32) (D1 : zD), zGO K Y_MD_turn 3 0 0 (zqI z) (j17 s0 s1 D1) 0 0 z D1 17 [(0, .ref a), (1, .int x1), (2, .int x2)] [.int s1, .ref s0]) (fun s0 s1 D1 => ?_) (fun j17 h17 => ?_)
  · refine z_callVi (pc := 17) [.int s1] lkV_MD_127 rfl (c_MD_refused z D1 s0 s1) (by decide) rfl rfl (Nat.le_of_ble_eq_true rfl) d_MD_turn_17 (fun v2 D3 => ?_)
    refine z_if_eq (pc := 20) (tgt := 25) d_MD_turn_20 (by decide) ?_ ?_
    · refine z_aload_n (pc := 25) d_MD_turn_25 rfl 0 rfl ?_
      refine z_callVv (pc := 26) [] lkV_MD_216 rfl (c_MD_remember z D3 a ) (by decide) rfl rfl (Nat.le_of_ble_eq_true rfl) d_MD_turn_26 (fun D4 => ?_)
      refine z_aload_n (pc := 29) d_MD_turn_29 rfl 0 rfl ?_
      refine z_getR (pc := 30) fl_MD_13 d_MD_turn_30 (fun p5 => ?_)
      refine z_iload_n (pc := 33) d_MD_turn_33 rfl 1 rfl ?_
      refine z_iload_n (pc := 34) d_MD_turn_34 rfl 2 rfl ?_
      refine z_callSi (pc := 35) [.ref p5, .int x1, .int x2] lkS_MD_171 (c_MD_turnOn z D4 p5 x1 x2) (by decide) rfl rfl (Nat.le_of_ble_eq_true rfl) d_MD_turn_35 (fun v6 D7 => ?_)
      exact z_iret (pc := 38) d_MD_turn_38 rfl
    · refine z_iconst (pc := 23) d_MD_turn_23 ki_0 ?_
      exact z_iret (pc := 24) d_MD_turn_24 rfl
  · refine z_aload_n (pc := 0) d_MD_turn_0 rfl 0 rfl ?_
    refine z_aload_n (pc := 1) d_MD_turn_1 rfl 0 rfl ?_
    refine z_getR (pc := 2) fl_MD_13 d_MD_turn_2 (fun p8 => ?_)
    refine z_iload_n (pc := 5) d_MD_turn_5 rfl 1 rfl ?_
    refine z_callSi (pc := 6) [.ref p8, .int x1] lkS_MD_168 (c_MD_isSiren z D p8 x1) (by decide) rfl rfl (Nat.le_of_ble_eq_true rfl) d_MD_turn_6 (fun v9 D10 => ?_)
    refine z_if_eq (pc := 9) (tgt := 16) d_MD_turn_9 (by decide) ?_ ?_
    · refine z_iconst (pc := 16) d_MD_turn_16 ki_1 ?_
      exact z_sub [0, 1, 2] rfl (h17 a (1 : Int32) D10)
    · refine z_iconst (pc := 12) d_MD_turn_12 ki_0 ?_
      refine z_goto (pc := 13) (tgt := 17) d_MD_turn_13 (by decide) ?_
      exact z_sub [0, 1, 2] rfl (h17 a (0 : Int32) D10)
theorem d_MD_walk_0 : decode Y_MD_walk.2.1 0 = .ok (.aload_n 0, 1) := by decide +kernel
theorem d_MD_walk_1 : decode Y_MD_walk.2.1 1 = .ok (.aload_n 0, 1) := by decide +kernel
theorem d_MD_walk_2 : decode Y_MD_walk.2.1 2 = .ok (.getfield 13, 3) := by decide +kernel
theorem d_MD_walk_5 : decode Y_MD_walk.2.1 5 = .ok (.iload_n 1, 1) := by decide +kernel
theorem d_MD_walk_6 : decode Y_MD_walk.2.1 6 = .ok (.invokestatic 195, 3) := by decide +kernel
theorem d_MD_walk_9 : decode Y_MD_walk.2.1 9 = .ok (.ifCond .ne (7), 3) := by decide +kernel
theorem d_MD_walk_12 : decode Y_MD_walk.2.1 12 = .ok (.iconst (1), 1) := by decide +kernel
theorem d_MD_walk_13 : decode Y_MD_walk.2.1 13 = .ok (.goto (16), 3) := by decide +kernel
theorem d_MD_walk_16 : decode Y_MD_walk.2.1 16 = .ok (.iload_n 2, 1) := by decide +kernel
theorem d_MD_walk_17 : decode Y_MD_walk.2.1 17 = .ok (.iload_n 3, 1) := by decide +kernel
theorem d_MD_walk_18 : decode Y_MD_walk.2.1 18 = .ok (.invokestatic 222, 3) := by decide +kernel
theorem d_MD_walk_21 : decode Y_MD_walk.2.1 21 = .ok (.ifCond .eq (7), 3) := by decide +kernel
theorem d_MD_walk_24 : decode Y_MD_walk.2.1 24 = .ok (.iconst (0), 1) := by decide +kernel
theorem d_MD_walk_25 : decode Y_MD_walk.2.1 25 = .ok (.goto (4), 3) := by decide +kernel
theorem d_MD_walk_28 : decode Y_MD_walk.2.1 28 = .ok (.iconst (2), 1) := by decide +kernel
theorem d_MD_walk_29 : decode Y_MD_walk.2.1 29 = .ok (.invokevirtual 127, 3) := by decide +kernel
theorem d_MD_walk_32 : decode Y_MD_walk.2.1 32 = .ok (.ifCond .eq (5), 3) := by decide +kernel
theorem d_MD_walk_35 : decode Y_MD_walk.2.1 35 = .ok (.iconst (0), 1) := by decide +kernel
theorem d_MD_walk_36 : decode Y_MD_walk.2.1 36 = .ok (.ireturn, 1) := by decide +kernel
theorem d_MD_walk_37 : decode Y_MD_walk.2.1 37 = .ok (.aload_n 0, 1) := by decide +kernel
theorem d_MD_walk_38 : decode Y_MD_walk.2.1 38 = .ok (.invokevirtual 216, 3) := by decide +kernel
theorem d_MD_walk_41 : decode Y_MD_walk.2.1 41 = .ok (.aload_n 0, 1) := by decide +kernel
theorem d_MD_walk_42 : decode Y_MD_walk.2.1 42 = .ok (.getfield 13, 3) := by decide +kernel
theorem d_MD_walk_45 : decode Y_MD_walk.2.1 45 = .ok (.iload_n 1, 1) := by decide +kernel
theorem d_MD_walk_46 : decode Y_MD_walk.2.1 46 = .ok (.iload_n 2, 1) := by decide +kernel
theorem d_MD_walk_47 : decode Y_MD_walk.2.1 47 = .ok (.iload_n 3, 1) := by decide +kernel
theorem d_MD_walk_48 : decode Y_MD_walk.2.1 48 = .ok (.invokestatic 225, 3) := by decide +kernel
theorem d_MD_walk_51 : decode Y_MD_walk.2.1 51 = .ok (.ireturn, 1) := by decide +kernel
def f_MD_walk (w : zW) (D : zD) (a : Nat) (x1 : Int32) (x2 : Int32) (x3 : Int32) : Option (Int32 × zD) := zjp (fun (s0 : Nat) (s1 : Int32) (D1 : zD) => zobj w 8 s0 (zci (f_MD_refused w D1 s0 s1) (fun v2 D3 => (if v2 = 0 then zobj w 8 a (zcv (f_MD_remember w D3 a ) (fun D4 => zref w 8 3 a (fun p5 => zci (f_MD_walkOn w D4 p5 x1 x2 x3) (fun v6 D7 => some (v6, D7))))) else some ((0 : Int32), D3))))) (fun j29 => zref w 8 3 a (fun p8 => zci (f_MD_isHearer w D p8 x1) (fun v9 D10 => (if v9 = 0 then j29 a (1 : Int32) D10 else zci (f_MD_isWay w D10 x2 x3) (fun v11 D12 => (if v11 = 0 then j29 a (2 : Int32) D12 else j29 a (0 : Int32) D12))))))
set_option maxHeartbeats 4000000 in
set_option maxRecDepth 100000 in
theorem c_MD_walk (z : zT) (D : zD) (a : Nat) (x1 : Int32) (x2 : Int32) (x3 : Int32) : zM Y_MD_walk 3 0 0 (zqI z) (f_MD_walk z.2 D a x1 x2 x3) [.ref a, .int x1, .int x2, .int x3] z D := by
  refine zM_of (plainFor_of_name (by decide +kernel)) rfl (Nat.le_of_ble_eq_true rfl) (fun _ _ _ _ h => nomatch h.1) (fun K => ?_)
  unfold f_MD_walk
  refine z_jp (fun j29 : Nat → Int32 → zD → Option (Int32 × zD) => ∀ (s0 : Nat) (s1 : Int32) (D1 : zD), zGO K Y_MD_walk 3 0 0 (zqI z) (j29 s0 s1 D1) 0 0 z D1 29 [(0, .ref a), (1, .int x1), (2, .int x2), (3, .int x3)] [.int s1, .ref s0]) (fun s0 s1 D1 => ?_) (fun j29 h29 => ?_)
  · refine z_callVi (pc := 29) [.int s1] lkV_MD_127 rfl (c_MD_refused z D1 s0 s1) (by decide) rfl rfl (Nat.le_of_ble_eq_true rfl) d_MD_walk_29 (fun v2 D3 => ?_)
    refine z_if_eq (pc := 32) (tgt := 37) d_MD_walk_32 (by decide) ?_ ?_
    · refine z_aload_n (pc := 37) d_MD_walk_37 rfl 0 rfl ?_
      refine z_callVv (pc := 38) [] lkV_MD_216 rfl (c_MD_remember z D3 a ) (by decide) rfl rfl (Nat.le_of_ble_eq_true rfl) d_MD_walk_38 (fun D4 => ?_)
      refine z_aload_n (pc := 41) d_MD_walk_41 rfl 0 rfl ?_
      refine z_getR (pc := 42) fl_MD_13 d_MD_walk_42 (fun p5 => ?_)
      refine z_iload_n (pc := 45) d_MD_walk_45 rfl 1 rfl ?_
      refine z_iload_n (pc := 46) d_MD_walk_46 rfl 2 rfl ?_
      refine z_iload_n (pc := 47) d_MD_walk_47 rfl 3 rfl ?_
      refine z_callSi (pc := 48) [.ref p5, .int x1, .int x2, .int x3] lkS_MD_225 (c_MD_walkOn z D4 p5 x1 x2 x3) (by decide) rfl rfl (Nat.le_of_ble_eq_true rfl) d_MD_walk_48 (fun v6 D7 => ?_)
      exact z_iret (pc := 51) d_MD_walk_51 rfl
    · refine z_iconst (pc := 35) d_MD_walk_35 ki_0 ?_
      exact z_iret (pc := 36) d_MD_walk_36 rfl
  · refine z_aload_n (pc := 0) d_MD_walk_0 rfl 0 rfl ?_
    refine z_aload_n (pc := 1) d_MD_walk_1 rfl 0 rfl ?_
    refine z_getR (pc := 2) fl_MD_13 d_MD_walk_2 (fun p8 => ?_)
    refine z_iload_n (pc := 5) d_MD_walk_5 rfl 1 rfl ?_
    refine z_callSi (pc := 6) [.ref p8, .int x1] lkS_MD_195 (c_MD_isHearer z D p8 x1) (by decide) rfl rfl (Nat.le_of_ble_eq_true rfl) d_MD_walk_6 (fun v9 D10 => ?_)
    refine z_if_ne (pc := 9) (tgt := 16) d_MD_walk_9 (by decide) ?_ ?_
    · refine z_iconst (pc := 12) d_MD_walk_12 ki_1 ?_
      refine z_goto (pc := 13) (tgt := 29) d_MD_walk_13 (by decide) ?_
      exact z_sub [0, 1, 2, 3] rfl (h29 a (1 : Int32) D10)
    · refine z_iload_n (pc := 16) d_MD_walk_16 rfl 2 rfl ?_
      refine z_iload_n (pc := 17) d_MD_walk_17 rfl 3 rfl ?_
      refine z_callSi (pc := 18) [.int x2, .int x3] lkS_MD_222 (c_MD_isWay z D10 x2 x3) (by decide) rfl rfl (Nat.le_of_ble_eq_true rfl) d_MD_walk_18 (fun v11 D12 => ?_)
      refine z_if_eq (pc := 21) (tgt := 28) d_MD_walk_21 (by decide) ?_ ?_
      · refine z_iconst (pc := 28) d_MD_walk_28 ki_2 ?_
        exact z_sub [0, 1, 2, 3] rfl (h29 a (2 : Int32) D12)
      · refine z_iconst (pc := 24) d_MD_walk_24 ki_0 ?_
        refine z_goto (pc := 25) (tgt := 29) d_MD_walk_25 (by decide) ?_
        exact z_sub [0, 1, 2, 3] rfl (h29 a (0 : Int32) D12)
theorem d_MD_set_0 : decode Y_MD_set.2.1 0 = .ok (.aload_n 0, 1) := by decide +kernel
theorem d_MD_set_1 : decode Y_MD_set.2.1 1 = .ok (.iload_n 1, 1) := by decide +kernel
theorem d_MD_set_2 : decode Y_MD_set.2.1 2 = .ok (.iload_n 2, 1) := by decide +kernel
theorem d_MD_set_3 : decode Y_MD_set.2.1 3 = .ok (.invokestatic 229, 3) := by decide +kernel
theorem d_MD_set_6 : decode Y_MD_set.2.1 6 = .ok (.ifCond .eq (7), 3) := by decide +kernel
theorem d_MD_set_9 : decode Y_MD_set.2.1 9 = .ok (.iconst (0), 1) := by decide +kernel
theorem d_MD_set_10 : decode Y_MD_set.2.1 10 = .ok (.goto (4), 3) := by decide +kernel
theorem d_MD_set_13 : decode Y_MD_set.2.1 13 = .ok (.iconst (1), 1) := by decide +kernel
theorem d_MD_set_14 : decode Y_MD_set.2.1 14 = .ok (.invokevirtual 127, 3) := by decide +kernel
theorem d_MD_set_17 : decode Y_MD_set.2.1 17 = .ok (.ifCond .eq (5), 3) := by decide +kernel
theorem d_MD_set_20 : decode Y_MD_set.2.1 20 = .ok (.iconst (0), 1) := by decide +kernel
theorem d_MD_set_21 : decode Y_MD_set.2.1 21 = .ok (.ireturn, 1) := by decide +kernel
theorem d_MD_set_22 : decode Y_MD_set.2.1 22 = .ok (.aload_n 0, 1) := by decide +kernel
theorem d_MD_set_23 : decode Y_MD_set.2.1 23 = .ok (.invokevirtual 216, 3) := by decide +kernel
theorem d_MD_set_26 : decode Y_MD_set.2.1 26 = .ok (.aload_n 0, 1) := by decide +kernel
theorem d_MD_set_27 : decode Y_MD_set.2.1 27 = .ok (.getfield 13, 3) := by decide +kernel
theorem d_MD_set_30 : decode Y_MD_set.2.1 30 = .ok (.iload_n 1, 1) := by decide +kernel
theorem d_MD_set_31 : decode Y_MD_set.2.1 31 = .ok (.iload_n 2, 1) := by decide +kernel
theorem d_MD_set_32 : decode Y_MD_set.2.1 32 = .ok (.invokestatic 175, 3) := by decide +kernel
theorem d_MD_set_35 : decode Y_MD_set.2.1 35 = .ok (.ireturn, 1) := by decide +kernel
def f_MD_set (w : zW) (D : zD) (a : Nat) (x1 : Int32) (x2 : Int32) : Option (Int32 × zD) := zjp (fun (s0 : Nat) (s1 : Int32) (D1 : zD) => zobj w 8 s0 (zci (f_MD_refused w D1 s0 s1) (fun v2 D3 => (if v2 = 0 then zobj w 8 a (zcv (f_MD_remember w D3 a ) (fun D4 => zref w 8 3 a (fun p5 => zci (f_MD_change w D4 p5 x1 x2) (fun v6 D7 => some (v6, D7))))) else some ((0 : Int32), D3))))) (fun j14 => zci (f_MD_isSetting w D x1 x2) (fun v8 D9 => (if v8 = 0 then j14 a (1 : Int32) D9 else j14 a (0 : Int32) D9)))
set_option maxHeartbeats 4000000 in
set_option maxRecDepth 100000 in
theorem c_MD_set (z : zT) (D : zD) (a : Nat) (x1 : Int32) (x2 : Int32) : zM Y_MD_set 3 0 0 (zqI z) (f_MD_set z.2 D a x1 x2) [.ref a, .int x1, .int x2] z D := by
  refine zM_of (plainFor_of_name (by decide +kernel)) rfl (Nat.le_of_ble_eq_true rfl) (fun _ _ _ _ h => nomatch h.1) (fun K => ?_)
  unfold f_MD_set
  refine z_jp (fun j14 : Nat → Int32 → zD → Option (Int32 × zD) => ∀ (s0 : Nat) (s1 : Int32) (D1 : zD), zGO K Y_MD_set 3 0 0 (zqI z) (j14 s0 s1 D1) 0 0 z D1 14 [(0, .ref a), (1, .int x1), (2, .int x2)] [.int s1, .ref s0]) (fun s0 s1 D1 => ?_) (fun j14 h14 => ?_)
  · refine z_callVi (pc := 14) [.int s1] lkV_MD_127 rfl (c_MD_refused z D1 s0 s1) (by decide) rfl rfl (Nat.le_of_ble_eq_true rfl) d_MD_set_14 (fun v2 D3 => ?_)
    refine z_if_eq (pc := 17) (tgt := 22) d_MD_set_17 (by decide) ?_ ?_
    · refine z_aload_n (pc := 22) d_MD_set_22 rfl 0 rfl ?_
      refine z_callVv (pc := 23) [] lkV_MD_216 rfl (c_MD_remember z D3 a ) (by decide) rfl rfl (Nat.le_of_ble_eq_true rfl) d_MD_set_23 (fun D4 => ?_)
      refine z_aload_n (pc := 26) d_MD_set_26 rfl 0 rfl ?_
      refine z_getR (pc := 27) fl_MD_13 d_MD_set_27 (fun p5 => ?_)
      refine z_iload_n (pc := 30) d_MD_set_30 rfl 1 rfl ?_
      refine z_iload_n (pc := 31) d_MD_set_31 rfl 2 rfl ?_
      refine z_callSi (pc := 32) [.ref p5, .int x1, .int x2] lkS_MD_175 (c_MD_change z D4 p5 x1 x2) (by decide) rfl rfl (Nat.le_of_ble_eq_true rfl) d_MD_set_32 (fun v6 D7 => ?_)
      exact z_iret (pc := 35) d_MD_set_35 rfl
    · refine z_iconst (pc := 20) d_MD_set_20 ki_0 ?_
      exact z_iret (pc := 21) d_MD_set_21 rfl
  · refine z_aload_n (pc := 0) d_MD_set_0 rfl 0 rfl ?_
    refine z_iload_n (pc := 1) d_MD_set_1 rfl 1 rfl ?_
    refine z_iload_n (pc := 2) d_MD_set_2 rfl 2 rfl ?_
    refine z_callSi (pc := 3) [.int x1, .int x2] lkS_MD_229 (c_MD_isSetting z D x1 x2) (by decide) rfl rfl (Nat.le_of_ble_eq_true rfl) d_MD_set_3 (fun v8 D9 => ?_)
    refine z_if_eq (pc := 6) (tgt := 13) d_MD_set_6 (by decide) ?_ ?_
    · refine z_iconst (pc := 13) d_MD_set_13 ki_1 ?_
      exact z_sub [0, 1, 2] rfl (h14 a (1 : Int32) D9)
    · refine z_iconst (pc := 9) d_MD_set_9 ki_0 ?_
      refine z_goto (pc := 10) (tgt := 14) d_MD_set_10 (by decide) ?_
      exact z_sub [0, 1, 2] rfl (h14 a (0 : Int32) D9)
theorem d_MD_tick_0 : decode Y_MD_tick.2.1 0 = .ok (.aload_n 0, 1) := by decide +kernel
theorem d_MD_tick_1 : decode Y_MD_tick.2.1 1 = .ok (.iconst (3), 1) := by decide +kernel
theorem d_MD_tick_2 : decode Y_MD_tick.2.1 2 = .ok (.dup2, 1) := by decide +kernel
theorem d_MD_tick_3 : decode Y_MD_tick.2.1 3 = .ok (.iaload, 1) := by decide +kernel
theorem d_MD_tick_4 : decode Y_MD_tick.2.1 4 = .ok (.iconst (1), 1) := by decide +kernel
theorem d_MD_tick_5 : decode Y_MD_tick.2.1 5 = .ok (.iadd, 1) := by decide +kernel
theorem d_MD_tick_6 : decode Y_MD_tick.2.1 6 = .ok (.iastore, 1) := by decide +kernel
theorem d_MD_tick_7 : decode Y_MD_tick.2.1 7 = .ok (.iconst (0), 1) := by decide +kernel
theorem d_MD_tick_8 : decode Y_MD_tick.2.1 8 = .ok (.istore_n 1, 1) := by decide +kernel
theorem d_MD_tick_9 : decode Y_MD_tick.2.1 9 = .ok (.iload_n 1, 1) := by decide +kernel
theorem d_MD_tick_10 : decode Y_MD_tick.2.1 10 = .ok (.aload_n 0, 1) := by decide +kernel
theorem d_MD_tick_11 : decode Y_MD_tick.2.1 11 = .ok (.iconst (0), 1) := by decide +kernel
theorem d_MD_tick_12 : decode Y_MD_tick.2.1 12 = .ok (.iaload, 1) := by decide +kernel
theorem d_MD_tick_13 : decode Y_MD_tick.2.1 13 = .ok (.if_icmp .ge (47), 3) := by decide +kernel
theorem d_MD_tick_16 : decode Y_MD_tick.2.1 16 = .ok (.aload_n 0, 1) := by decide +kernel
theorem d_MD_tick_17 : decode Y_MD_tick.2.1 17 = .ok (.bipush (11), 2) := by decide +kernel
theorem d_MD_tick_19 : decode Y_MD_tick.2.1 19 = .ok (.bipush (7), 2) := by decide +kernel
theorem d_MD_tick_21 : decode Y_MD_tick.2.1 21 = .ok (.iload_n 1, 1) := by decide +kernel
theorem d_MD_tick_22 : decode Y_MD_tick.2.1 22 = .ok (.imul, 1) := by decide +kernel
theorem d_MD_tick_23 : decode Y_MD_tick.2.1 23 = .ok (.iadd, 1) := by decide +kernel
theorem d_MD_tick_24 : decode Y_MD_tick.2.1 24 = .ok (.bipush (6), 2) := by decide +kernel
theorem d_MD_tick_26 : decode Y_MD_tick.2.1 26 = .ok (.iadd, 1) := by decide +kernel
theorem d_MD_tick_27 : decode Y_MD_tick.2.1 27 = .ok (.aload_n 0, 1) := by decide +kernel
theorem d_MD_tick_28 : decode Y_MD_tick.2.1 28 = .ok (.iload_n 1, 1) := by decide +kernel
theorem d_MD_tick_29 : decode Y_MD_tick.2.1 29 = .ok (.aload_n 0, 1) := by decide +kernel
theorem d_MD_tick_30 : decode Y_MD_tick.2.1 30 = .ok (.iload_n 1, 1) := by decide +kernel
theorem d_MD_tick_31 : decode Y_MD_tick.2.1 31 = .ok (.bipush (6), 2) := by decide +kernel
theorem d_MD_tick_33 : decode Y_MD_tick.2.1 33 = .ok (.invokestatic 45, 3) := by decide +kernel
theorem d_MD_tick_36 : decode Y_MD_tick.2.1 36 = .ok (.aload_n 0, 1) := by decide +kernel
theorem d_MD_tick_37 : decode Y_MD_tick.2.1 37 = .ok (.iload_n 1, 1) := by decide +kernel
theorem d_MD_tick_38 : decode Y_MD_tick.2.1 38 = .ok (.iconst (5), 1) := by decide +kernel
theorem d_MD_tick_39 : decode Y_MD_tick.2.1 39 = .ok (.invokestatic 45, 3) := by decide +kernel
theorem d_MD_tick_42 : decode Y_MD_tick.2.1 42 = .ok (.aload_n 0, 1) := by decide +kernel
theorem d_MD_tick_43 : decode Y_MD_tick.2.1 43 = .ok (.iload_n 1, 1) := by decide +kernel
theorem d_MD_tick_44 : decode Y_MD_tick.2.1 44 = .ok (.iconst (3), 1) := by decide +kernel
theorem d_MD_tick_45 : decode Y_MD_tick.2.1 45 = .ok (.invokestatic 45, 3) := by decide +kernel
theorem d_MD_tick_48 : decode Y_MD_tick.2.1 48 = .ok (.imul, 1) := by decide +kernel
theorem d_MD_tick_49 : decode Y_MD_tick.2.1 49 = .ok (.iadd, 1) := by decide +kernel
theorem d_MD_tick_50 : decode Y_MD_tick.2.1 50 = .ok (.invokestatic 84, 3) := by decide +kernel
theorem d_MD_tick_53 : decode Y_MD_tick.2.1 53 = .ok (.iastore, 1) := by decide +kernel
theorem d_MD_tick_54 : decode Y_MD_tick.2.1 54 = .ok (.iinc 1 (1), 3) := by decide +kernel
theorem d_MD_tick_57 : decode Y_MD_tick.2.1 57 = .ok (.goto (-48), 3) := by decide +kernel
theorem d_MD_tick_60 : decode Y_MD_tick.2.1 60 = .ok (.iconst (0), 1) := by decide +kernel
theorem d_MD_tick_61 : decode Y_MD_tick.2.1 61 = .ok (.istore_n 1, 1) := by decide +kernel
theorem d_MD_tick_62 : decode Y_MD_tick.2.1 62 = .ok (.iload_n 1, 1) := by decide +kernel
theorem d_MD_tick_63 : decode Y_MD_tick.2.1 63 = .ok (.aload_n 0, 1) := by decide +kernel
theorem d_MD_tick_64 : decode Y_MD_tick.2.1 64 = .ok (.iconst (1), 1) := by decide +kernel
theorem d_MD_tick_65 : decode Y_MD_tick.2.1 65 = .ok (.iaload, 1) := by decide +kernel
theorem d_MD_tick_66 : decode Y_MD_tick.2.1 66 = .ok (.if_icmp .ge (21), 3) := by decide +kernel
theorem d_MD_tick_69 : decode Y_MD_tick.2.1 69 = .ok (.aload_n 0, 1) := by decide +kernel
theorem d_MD_tick_70 : decode Y_MD_tick.2.1 70 = .ok (.iload_n 1, 1) := by decide +kernel
theorem d_MD_tick_71 : decode Y_MD_tick.2.1 71 = .ok (.iconst (0), 1) := by decide +kernel
theorem d_MD_tick_72 : decode Y_MD_tick.2.1 72 = .ok (.invokestatic 87, 3) := by decide +kernel
theorem d_MD_tick_75 : decode Y_MD_tick.2.1 75 = .ok (.aload_n 0, 1) := by decide +kernel
theorem d_MD_tick_76 : decode Y_MD_tick.2.1 76 = .ok (.iload_n 1, 1) := by decide +kernel
theorem d_MD_tick_77 : decode Y_MD_tick.2.1 77 = .ok (.iconst (1), 1) := by decide +kernel
theorem d_MD_tick_78 : decode Y_MD_tick.2.1 78 = .ok (.invokestatic 87, 3) := by decide +kernel
theorem d_MD_tick_81 : decode Y_MD_tick.2.1 81 = .ok (.iinc 1 (1), 3) := by decide +kernel
theorem d_MD_tick_84 : decode Y_MD_tick.2.1 84 = .ok (.goto (-22), 3) := by decide +kernel
theorem d_MD_tick_87 : decode Y_MD_tick.2.1 87 = .ok (.iconst (0), 1) := by decide +kernel
theorem d_MD_tick_88 : decode Y_MD_tick.2.1 88 = .ok (.istore_n 1, 1) := by decide +kernel
theorem d_MD_tick_89 : decode Y_MD_tick.2.1 89 = .ok (.iload_n 1, 1) := by decide +kernel
theorem d_MD_tick_90 : decode Y_MD_tick.2.1 90 = .ok (.aload_n 0, 1) := by decide +kernel
theorem d_MD_tick_91 : decode Y_MD_tick.2.1 91 = .ok (.iconst (0), 1) := by decide +kernel
theorem d_MD_tick_92 : decode Y_MD_tick.2.1 92 = .ok (.iaload, 1) := by decide +kernel
theorem d_MD_tick_93 : decode Y_MD_tick.2.1 93 = .ok (.if_icmp .ge (37), 3) := by decide +kernel
theorem d_MD_tick_96 : decode Y_MD_tick.2.1 96 = .ok (.aload_n 0, 1) := by decide +kernel
theorem d_MD_tick_97 : decode Y_MD_tick.2.1 97 = .ok (.iload_n 1, 1) := by decide +kernel
theorem d_MD_tick_98 : decode Y_MD_tick.2.1 98 = .ok (.iconst (5), 1) := by decide +kernel
theorem d_MD_tick_99 : decode Y_MD_tick.2.1 99 = .ok (.invokestatic 45, 3) := by decide +kernel
theorem d_MD_tick_102 : decode Y_MD_tick.2.1 102 = .ok (.iconst (1), 1) := by decide +kernel
theorem d_MD_tick_103 : decode Y_MD_tick.2.1 103 = .ok (.if_icmp .ne (21), 3) := by decide +kernel
theorem d_MD_tick_106 : decode Y_MD_tick.2.1 106 = .ok (.aload_n 0, 1) := by decide +kernel
theorem d_MD_tick_107 : decode Y_MD_tick.2.1 107 = .ok (.iconst (3), 1) := by decide +kernel
theorem d_MD_tick_108 : decode Y_MD_tick.2.1 108 = .ok (.iaload, 1) := by decide +kernel
theorem d_MD_tick_109 : decode Y_MD_tick.2.1 109 = .ok (.aload_n 0, 1) := by decide +kernel
theorem d_MD_tick_110 : decode Y_MD_tick.2.1 110 = .ok (.iload_n 1, 1) := by decide +kernel
theorem d_MD_tick_111 : decode Y_MD_tick.2.1 111 = .ok (.iconst (4), 1) := by decide +kernel
theorem d_MD_tick_112 : decode Y_MD_tick.2.1 112 = .ok (.invokestatic 45, 3) := by decide +kernel
theorem d_MD_tick_115 : decode Y_MD_tick.2.1 115 = .ok (.irem, 1) := by decide +kernel
theorem d_MD_tick_116 : decode Y_MD_tick.2.1 116 = .ok (.ifCond .ne (8), 3) := by decide +kernel
theorem d_MD_tick_119 : decode Y_MD_tick.2.1 119 = .ok (.aload_n 0, 1) := by decide +kernel
theorem d_MD_tick_120 : decode Y_MD_tick.2.1 120 = .ok (.iload_n 1, 1) := by decide +kernel
theorem d_MD_tick_121 : decode Y_MD_tick.2.1 121 = .ok (.invokestatic 91, 3) := by decide +kernel
theorem d_MD_tick_124 : decode Y_MD_tick.2.1 124 = .ok (.iinc 1 (1), 3) := by decide +kernel
theorem d_MD_tick_127 : decode Y_MD_tick.2.1 127 = .ok (.goto (-38), 3) := by decide +kernel
theorem d_MD_tick_130 : decode Y_MD_tick.2.1 130 = .ok (.iconst (0), 1) := by decide +kernel
theorem d_MD_tick_131 : decode Y_MD_tick.2.1 131 = .ok (.istore_n 1, 1) := by decide +kernel
theorem d_MD_tick_132 : decode Y_MD_tick.2.1 132 = .ok (.iload_n 1, 1) := by decide +kernel
theorem d_MD_tick_133 : decode Y_MD_tick.2.1 133 = .ok (.aload_n 0, 1) := by decide +kernel
theorem d_MD_tick_134 : decode Y_MD_tick.2.1 134 = .ok (.iconst (4), 1) := by decide +kernel
theorem d_MD_tick_135 : decode Y_MD_tick.2.1 135 = .ok (.iaload, 1) := by decide +kernel
theorem d_MD_tick_136 : decode Y_MD_tick.2.1 136 = .ok (.if_icmp .ge (39), 3) := by decide +kernel
theorem d_MD_tick_139 : decode Y_MD_tick.2.1 139 = .ok (.iconst (0), 1) := by decide +kernel
theorem d_MD_tick_140 : decode Y_MD_tick.2.1 140 = .ok (.istore_n 2, 1) := by decide +kernel
theorem d_MD_tick_141 : decode Y_MD_tick.2.1 141 = .ok (.iload_n 2, 1) := by decide +kernel
theorem d_MD_tick_142 : decode Y_MD_tick.2.1 142 = .ok (.aload_n 0, 1) := by decide +kernel
theorem d_MD_tick_143 : decode Y_MD_tick.2.1 143 = .ok (.iconst (1), 1) := by decide +kernel
theorem d_MD_tick_144 : decode Y_MD_tick.2.1 144 = .ok (.iaload, 1) := by decide +kernel
theorem d_MD_tick_145 : decode Y_MD_tick.2.1 145 = .ok (.if_icmp .ge (24), 3) := by decide +kernel
theorem d_MD_tick_148 : decode Y_MD_tick.2.1 148 = .ok (.aload_n 0, 1) := by decide +kernel
theorem d_MD_tick_149 : decode Y_MD_tick.2.1 149 = .ok (.iload_n 1, 1) := by decide +kernel
theorem d_MD_tick_150 : decode Y_MD_tick.2.1 150 = .ok (.iload_n 2, 1) := by decide +kernel
theorem d_MD_tick_151 : decode Y_MD_tick.2.1 151 = .ok (.invokestatic 94, 3) := by decide +kernel
theorem d_MD_tick_154 : decode Y_MD_tick.2.1 154 = .ok (.ifCond .eq (9), 3) := by decide +kernel
theorem d_MD_tick_157 : decode Y_MD_tick.2.1 157 = .ok (.aload_n 0, 1) := by decide +kernel
theorem d_MD_tick_158 : decode Y_MD_tick.2.1 158 = .ok (.iload_n 1, 1) := by decide +kernel
theorem d_MD_tick_159 : decode Y_MD_tick.2.1 159 = .ok (.iload_n 2, 1) := by decide +kernel
theorem d_MD_tick_160 : decode Y_MD_tick.2.1 160 = .ok (.invokestatic 97, 3) := by decide +kernel
theorem d_MD_tick_163 : decode Y_MD_tick.2.1 163 = .ok (.iinc 2 (1), 3) := by decide +kernel
theorem d_MD_tick_166 : decode Y_MD_tick.2.1 166 = .ok (.goto (-25), 3) := by decide +kernel
theorem d_MD_tick_169 : decode Y_MD_tick.2.1 169 = .ok (.iinc 1 (1), 3) := by decide +kernel
theorem d_MD_tick_172 : decode Y_MD_tick.2.1 172 = .ok (.goto (-40), 3) := by decide +kernel
theorem d_MD_tick_175 : decode Y_MD_tick.2.1 175 = .ok (.iconst (0), 1) := by decide +kernel
theorem d_MD_tick_176 : decode Y_MD_tick.2.1 176 = .ok (.istore_n 1, 1) := by decide +kernel
theorem d_MD_tick_177 : decode Y_MD_tick.2.1 177 = .ok (.iload_n 1, 1) := by decide +kernel
theorem d_MD_tick_178 : decode Y_MD_tick.2.1 178 = .ok (.aload_n 0, 1) := by decide +kernel
theorem d_MD_tick_179 : decode Y_MD_tick.2.1 179 = .ok (.iconst (1), 1) := by decide +kernel
theorem d_MD_tick_180 : decode Y_MD_tick.2.1 180 = .ok (.iaload, 1) := by decide +kernel
theorem d_MD_tick_181 : decode Y_MD_tick.2.1 181 = .ok (.if_icmp .ge (14), 3) := by decide +kernel
theorem d_MD_tick_184 : decode Y_MD_tick.2.1 184 = .ok (.aload_n 0, 1) := by decide +kernel
theorem d_MD_tick_185 : decode Y_MD_tick.2.1 185 = .ok (.iload_n 1, 1) := by decide +kernel
theorem d_MD_tick_186 : decode Y_MD_tick.2.1 186 = .ok (.invokestatic 100, 3) := by decide +kernel
theorem d_MD_tick_189 : decode Y_MD_tick.2.1 189 = .ok (.iinc 1 (1), 3) := by decide +kernel
theorem d_MD_tick_192 : decode Y_MD_tick.2.1 192 = .ok (.goto (-15), 3) := by decide +kernel
theorem d_MD_tick_195 : decode Y_MD_tick.2.1 195 = .ok (.aload_n 0, 1) := by decide +kernel
theorem d_MD_tick_196 : decode Y_MD_tick.2.1 196 = .ok (.iconst (4), 1) := by decide +kernel
theorem d_MD_tick_197 : decode Y_MD_tick.2.1 197 = .ok (.iaload, 1) := by decide +kernel
theorem d_MD_tick_198 : decode Y_MD_tick.2.1 198 = .ok (.iconst (1), 1) := by decide +kernel
theorem d_MD_tick_199 : decode Y_MD_tick.2.1 199 = .ok (.isub, 1) := by decide +kernel
theorem d_MD_tick_200 : decode Y_MD_tick.2.1 200 = .ok (.istore_n 1, 1) := by decide +kernel
theorem d_MD_tick_201 : decode Y_MD_tick.2.1 201 = .ok (.iload_n 1, 1) := by decide +kernel
theorem d_MD_tick_202 : decode Y_MD_tick.2.1 202 = .ok (.ifCond .lt (22), 3) := by decide +kernel
theorem d_MD_tick_205 : decode Y_MD_tick.2.1 205 = .ok (.aload_n 0, 1) := by decide +kernel
theorem d_MD_tick_206 : decode Y_MD_tick.2.1 206 = .ok (.iload_n 1, 1) := by decide +kernel
theorem d_MD_tick_207 : decode Y_MD_tick.2.1 207 = .ok (.invokestatic 103, 3) := by decide +kernel
theorem d_MD_tick_210 : decode Y_MD_tick.2.1 210 = .ok (.ifCond .eq (8), 3) := by decide +kernel
theorem d_MD_tick_213 : decode Y_MD_tick.2.1 213 = .ok (.aload_n 0, 1) := by decide +kernel
theorem d_MD_tick_214 : decode Y_MD_tick.2.1 214 = .ok (.iload_n 1, 1) := by decide +kernel
theorem d_MD_tick_215 : decode Y_MD_tick.2.1 215 = .ok (.invokestatic 53, 3) := by decide +kernel
theorem d_MD_tick_218 : decode Y_MD_tick.2.1 218 = .ok (.iinc 1 (-1), 3) := by decide +kernel
theorem d_MD_tick_221 : decode Y_MD_tick.2.1 221 = .ok (.goto (-20), 3) := by decide +kernel
theorem d_MD_tick_224 : decode Y_MD_tick.2.1 224 = .ok (.return_, 1) := by decide +kernel
def f_MD_tick (w : zW) (D : zD) (r0 : Nat) : Option (zD) := zjp (zlp (fun (_ : Int32) (_ : zD) => none) (fun (j9 : Int32 → zD → Option (zD)) (x1 : Int32) (D1 : zD) => zald w D1 0 r0 (0 : Int32) (fun v2 => (if v2 ≤ x1 then zjp (zlp (fun (_ : Int32) (_ : zD) => none) (fun (j62 : Int32 → zD → Option (zD)) (x1 : Int32) (D3 : zD) => zald w D3 0 r0 (1 : Int32) (fun v4 => (if v4 ≤ x1 then zjp (zlp (fun (_ : Int32) (_ : zD) => none) (fun (j89 : Int32 → zD → Option (zD)) (x1 : Int32) (D5 : zD) => zald w D5 0 r0 (0 : Int32) (fun v6 => (if v6 ≤ x1 then zjp (zlp (fun (_ : Int32) (_ : zD) => none) (fun (j132 : Int32 → zD → Option (zD)) (x1 : Int32) (D7 : zD) => zald w D7 0 r0 (4 : Int32) (fun v8 => (if v8 ≤ x1 then zjp (zlp (fun (_ : Int32) (_ : zD) => none) (fun (j177 : Int32 → zD → Option (zD)) (x1 : Int32) (D9 : zD) => zald w D9 0 r0 (1 : Int32) (fun v10 => (if v10 ≤ x1 then zjp (zlp (fun (_ : Int32) (_ : zD) => none) (fun (j201 : Int32 → zD → Option (zD)) (x1 : Int32) (D11 : zD) => (if x1 < 0 then some D11 else zjp (fun (x1 : Int32) (D12 : zD) => zlet (x1 + (-1 : Int32)) (fun v13 => j201 v13 D12)) (fun j218 => zci (f_MD_isGone w D11 r0 x1) (fun v14 D15 => (if v14 = 0 then j218 x1 D15 else zcv (f_MD_dropPulse w D15 r0 x1) (fun D16 => j218 x1 D16)))))) zfuel) (fun j201 => zald w D9 0 r0 (4 : Int32) (fun v17 => zlet (v17 - (1 : Int32)) (fun v18 => j201 v18 D9))) else zcv (f_MD_beats w D9 r0 x1) (fun D19 => zlet (x1 + (1 : Int32)) (fun v20 => j177 v20 D19))))) zfuel) (fun j177 => j177 (0 : Int32) D7) else zjp (zlp (fun (_ : Int32) (_ : Int32) (_ : zD) => none) (fun (j141 : Int32 → Int32 → zD → Option (zD)) (x1 : Int32) (x2 : Int32) (D21 : zD) => zald w D21 0 r0 (1 : Int32) (fun v22 => (if v22 ≤ x2 then zlet (x1 + (1 : Int32)) (fun v23 => j132 v23 D21) else zjp (fun (x1 : Int32) (x2 : Int32) (D24 : zD) => zlet (x2 + (1 : Int32)) (fun v25 => j141 x1 v25 D24)) (fun j163 => zci (f_MD_isHeardNow w D21 r0 x1 x2) (fun v26 D27 => (if v26 = 0 then j163 x1 x2 D27 else zcv (f_MD_hear w D27 r0 x1 x2) (fun D28 => j163 x1 x2 D28))))))) zfuel) (fun j141 => j141 x1 (0 : Int32) D7)))) zfuel) (fun j132 => j132 (0 : Int32) D5) else zjp (fun (x1 : Int32) (D29 : zD) => zlet (x1 + (1 : Int32)) (fun v30 => j89 v30 D29)) (fun j124 => zci (f_MD_ofSiren w D5 r0 x1 (5 : Int32)) (fun v31 D32 => (if v31 = (1 : Int32) then zald w D32 0 r0 (3 : Int32) (fun v33 => zci (f_MD_ofSiren w D32 r0 x1 (4 : Int32)) (fun v34 D35 => zchk (¬ v34 = 0) ((if (zirem v33 v34) = 0 then zcv (f_MD_gives w D35 r0 x1) (fun D36 => j124 x1 D36) else j124 x1 D35)))) else j124 x1 D32)))))) zfuel) (fun j89 => j89 (0 : Int32) D3) else zcv (f_MD_walks w D3 r0 x1 (0 : Int32)) (fun D37 => zcv (f_MD_walks w D37 r0 x1 (1 : Int32)) (fun D38 => zlet (x1 + (1 : Int32)) (fun v39 => j62 v39 D38)))))) zfuel) (fun j62 => j62 (0 : Int32) D1) else zci (f_MD_ofSiren w D1 r0 x1 (6 : Int32)) (fun v40 D41 => zci (f_MD_ofSiren w D41 r0 x1 (5 : Int32)) (fun v42 D43 => zci (f_MD_ofSiren w D43 r0 x1 (3 : Int32)) (fun v44 D45 => zci (f_MD_onRing w D45 r0 x1 (v40 + (v42 * v44))) (fun v46 D47 => zast w D47 0 r0 (((11 : Int32) + ((7 : Int32) * x1)) + (6 : Int32)) v46 (fun D48 => zlet (x1 + (1 : Int32)) (fun v49 => j9 v49 D48))))))))) zfuel) (fun j9 => zald w D 0 r0 (3 : Int32) (fun v50 => zast w D 0 r0 (3 : Int32) (v50 + (1 : Int32)) (fun D51 => j9 (0 : Int32) D51)))
set_option maxHeartbeats 4000000 in
set_option maxRecDepth 100000 in
theorem c_MD_tick (z : zT) (D : zD) (r0 : Nat) : zM Y_MD_tick 4 0 0 (zqV z) (f_MD_tick z.2 D r0) [.ref r0] z D := by
  refine zM_of (plainFor_of_name (by decide +kernel)) rfl (Nat.le_of_ble_eq_true rfl) (fun _ _ _ _ h => nomatch h.1) (fun K => ?_)
  unfold f_MD_tick
  refine z_jp (fun j9 : Int32 → zD → Option (zD) => ∀ (x1 : Int32) (D1 : zD), zGO K Y_MD_tick 4 0 0 (zqV z) (j9 x1 D1) 0 0 z D1 9 [(0, .ref r0), (1, .int x1)] []) (z_lp (fun j9 : Int32 → zD → Option (zD) => ∀ (x1 : Int32) (D1 : zD), zGO K Y_MD_tick 4 0 0 (zqV z) (j9 x1 D1) 0 0 z D1 9 [(0, .ref r0), (1, .int x1)] []) (fun _ _ => z_none) (fun j9 h9 x1 D1 => ?_) zfuel) (fun j9 h9 => ?_)
  · refine z_iload_n (pc := 9) d_MD_tick_9 rfl 1 rfl ?_
    refine z_aload_n (pc := 10) d_MD_tick_10 rfl 0 rfl ?_
    refine z_iconst (pc := 11) d_MD_tick_11 ki_0 ?_
    refine z_iaload (pc := 12) d_MD_tick_12 (fun v2 => ?_)
    refine z_icmp_ge (pc := 13) (tgt := 60) d_MD_tick_13 (by decide) ?_ ?_
    · refine z_jp (fun j62 : Int32 → zD → Option (zD) => ∀ (x1 : Int32) (D3 : zD), zGO K Y_MD_tick 4 0 0 (zqV z) (j62 x1 D3) 0 0 z D3 62 [(0, .ref r0), (1, .int x1)] []) (z_lp (fun j62 : Int32 → zD → Option (zD) => ∀ (x1 : Int32) (D3 : zD), zGO K Y_MD_tick 4 0 0 (zqV z) (j62 x1 D3) 0 0 z D3 62 [(0, .ref r0), (1, .int x1)] []) (fun _ _ => z_none) (fun j62 h62 x1 D3 => ?_) zfuel) (fun j62 h62 => ?_)
      · refine z_iload_n (pc := 62) d_MD_tick_62 rfl 1 rfl ?_
        refine z_aload_n (pc := 63) d_MD_tick_63 rfl 0 rfl ?_
        refine z_iconst (pc := 64) d_MD_tick_64 ki_1 ?_
        refine z_iaload (pc := 65) d_MD_tick_65 (fun v4 => ?_)
        refine z_icmp_ge (pc := 66) (tgt := 87) d_MD_tick_66 (by decide) ?_ ?_
        · refine z_jp (fun j89 : Int32 → zD → Option (zD) => ∀ (x1 : Int32) (D5 : zD), zGO K Y_MD_tick 4 0 0 (zqV z) (j89 x1 D5) 0 0 z D5 89 [(0, .ref r0), (1, .int x1)] []) (z_lp (fun j89 : Int32 → zD → Option (zD) => ∀ (x1 : Int32) (D5 : zD), zGO K Y_MD_tick 4 0 0 (zqV z) (j89 x1 D5) 0 0 z D5 89 [(0, .ref r0), (1, .int x1)] []) (fun _ _ => z_none) (fun j89 h89 x1 D5 => ?_) zfuel) (fun j89 h89 => ?_)
          · refine z_iload_n (pc := 89) d_MD_tick_89 rfl 1 rfl ?_
            refine z_aload_n (pc := 90) d_MD_tick_90 rfl 0 rfl ?_
            refine z_iconst (pc := 91) d_MD_tick_91 ki_0 ?_
            refine z_iaload (pc := 92) d_MD_tick_92 (fun v6 => ?_)
            refine z_icmp_ge (pc := 93) (tgt := 130) d_MD_tick_93 (by decide) ?_ ?_
            · refine z_jp (fun j132 : Int32 → zD → Option (zD) => ∀ (x1 : Int32) (D7 : zD), zGO K Y_MD_tick 4 0 0 (zqV z) (j132 x1 D7) 0 0 z D7 132 [(0, .ref r0), (1, .int x1)] []) (z_lp (fun j132 : Int32 → zD → Option (zD) => ∀ (x1 : Int32) (D7 : zD), zGO K Y_MD_tick 4 0 0 (zqV z) (j132 x1 D7) 0 0 z D7 132 [(0, .ref r0), (1, .int x1)] []) (fun _ _ => z_none) (fun j132 h132 x1 D7 => ?_) zfuel) (fun j132 h132 => ?_)
              · refine z_iload_n (pc := 132) d_MD_tick_132 rfl 1 rfl ?_
                refine z_aload_n (pc := 133) d_MD_tick_133 rfl 0 rfl ?_
                refine z_iconst (pc := 134) d_MD_tick_134 ki_4 ?_
                refine z_iaload (pc := 135) d_MD_tick_135 (fun v8 => ?_)
                refine z_icmp_ge (pc := 136) (tgt := 175) d_MD_tick_136 (by decide) ?_ ?_
                · refine z_jp (fun j177 : Int32 → zD → Option (zD) => ∀ (x1 : Int32) (D9 : zD), zGO K Y_MD_tick 4 0 0 (zqV z) (j177 x1 D9) 0 0 z D9 177 [(0, .ref r0), (1, .int x1)] []) (z_lp (fun j177 : Int32 → zD → Option (zD) => ∀ (x1 : Int32) (D9 : zD), zGO K Y_MD_tick 4 0 0 (zqV z) (j177 x1 D9) 0 0 z D9 177 [(0, .ref r0), (1, .int x1)] []) (fun _ _ => z_none) (fun j177 h177 x1 D9 => ?_) zfuel) (fun j177 h177 => ?_)
                  · refine z_iload_n (pc := 177) d_MD_tick_177 rfl 1 rfl ?_
                    refine z_aload_n (pc := 178) d_MD_tick_178 rfl 0 rfl ?_
                    refine z_iconst (pc := 179) d_MD_tick_179 ki_1 ?_
                    refine z_iaload (pc := 180) d_MD_tick_180 (fun v10 => ?_)
                    refine z_icmp_ge (pc := 181) (tgt := 195) d_MD_tick_181 (by decide) ?_ ?_
                    · refine z_jp (fun j201 : Int32 → zD → Option (zD) => ∀ (x1 : Int32) (D11 : zD), zGO K Y_MD_tick 4 0 0 (zqV z) (j201 x1 D11) 0 0 z D11 201 [(0, .ref r0), (1, .int x1)] []) (z_lp (fun j201 : Int32 → zD → Option (zD) => ∀ (x1 : Int32) (D11 : zD), zGO K Y_MD_tick 4 0 0 (zqV z) (j201 x1 D11) 0 0 z D11 201 [(0, .ref r0), (1, .int x1)] []) (fun _ _ => z_none) (fun j201 h201 x1 D11 => ?_) zfuel) (fun j201 h201 => ?_)
                      · refine z_iload_n (pc := 201) d_MD_tick_201 rfl 1 rfl ?_
                        refine z_if_lt (pc := 202) (tgt := 224) d_MD_tick_202 (by decide) ?_ ?_
                        · exact z_vret (pc := 224) d_MD_tick_224 rfl
                        · refine z_jp (fun j218 : Int32 → zD → Option (zD) => ∀ (x1 : Int32) (D12 : zD), zGO K Y_MD_tick 4 0 0 (zqV z) (j218 x1 D12) 0 0 z D12 218 [(0, .ref r0), (1, .int x1)] []) (fun x1 D12 => ?_) (fun j218 h218 => ?_)
                          · refine z_iincL (pc := 218) d_MD_tick_218 ki_m1 1 rfl (by decide) (fun v13 => z_lvc (lv2 := [(1, .int v13), (0, .ref r0)]) rfl ?_)
                            refine z_goto (pc := 221) (tgt := 201) d_MD_tick_221 (by decide) ?_
                            exact z_sub [1, 0] rfl (h201 v13 D12)
                          · refine z_aload_n (pc := 205) d_MD_tick_205 rfl 0 rfl ?_
                            refine z_iload_n (pc := 206) d_MD_tick_206 rfl 1 rfl ?_
                            refine z_callSi (pc := 207) [.ref r0, .int x1] lkS_MD_103 (c_MD_isGone z D11 r0 x1) (by decide) rfl rfl (Nat.le_of_ble_eq_true rfl) d_MD_tick_207 (fun v14 D15 => ?_)
                            refine z_if_eq (pc := 210) (tgt := 218) d_MD_tick_210 (by decide) ?_ ?_
                            · exact z_sub [0, 1] rfl (h218 x1 D15)
                            · refine z_aload_n (pc := 213) d_MD_tick_213 rfl 0 rfl ?_
                              refine z_iload_n (pc := 214) d_MD_tick_214 rfl 1 rfl ?_
                              refine z_callSv (pc := 215) [.ref r0, .int x1] lkS_MD_53 (c_MD_dropPulse z D15 r0 x1) (by decide) rfl rfl (Nat.le_of_ble_eq_true rfl) d_MD_tick_215 (fun D16 => ?_)
                              exact z_sub [0, 1] rfl (h218 x1 D16)
                      · refine z_aload_n (pc := 195) d_MD_tick_195 rfl 0 rfl ?_
                        refine z_iconst (pc := 196) d_MD_tick_196 ki_4 ?_
                        refine z_iaload (pc := 197) d_MD_tick_197 (fun v17 => ?_)
                        refine z_iconst (pc := 198) d_MD_tick_198 ki_1 ?_
                        refine z_isub (pc := 199) d_MD_tick_199 ?_
                        refine z_leti (fun v18 => ?_)
                        refine z_istore_n (pc := 200) d_MD_tick_200 rfl (by decide) (lv' := [(1, .int v18), (0, .ref r0)]) rfl ?_
                        exact z_sub [1, 0] rfl (h201 v18 D9)
                    · refine z_aload_n (pc := 184) d_MD_tick_184 rfl 0 rfl ?_
                      refine z_iload_n (pc := 185) d_MD_tick_185 rfl 1 rfl ?_
                      refine z_callSv (pc := 186) [.ref r0, .int x1] lkS_MD_100 (c_MD_beats z D9 r0 x1) (by decide) rfl rfl (Nat.le_of_ble_eq_true rfl) d_MD_tick_186 (fun D19 => ?_)
                      refine z_iincL (pc := 189) d_MD_tick_189 ki_1 1 rfl (by decide) (fun v20 => z_lvc (lv2 := [(1, .int v20), (0, .ref r0)]) rfl ?_)
                      refine z_goto (pc := 192) (tgt := 177) d_MD_tick_192 (by decide) ?_
                      exact z_sub [1, 0] rfl (h177 v20 D19)
                  · refine z_iconst (pc := 175) d_MD_tick_175 ki_0 ?_
                    refine z_istore_n (pc := 176) d_MD_tick_176 rfl (by decide) (lv' := [(1, .int (0 : Int32)), (0, .ref r0)]) rfl ?_
                    exact z_sub [1, 0] rfl (h177 (0 : Int32) D7)
                · refine z_jp (fun j141 : Int32 → Int32 → zD → Option (zD) => ∀ (x1 : Int32) (x2 : Int32) (D21 : zD), zGO K Y_MD_tick 4 0 0 (zqV z) (j141 x1 x2 D21) 0 0 z D21 141 [(0, .ref r0), (1, .int x1), (2, .int x2)] []) (z_lp (fun j141 : Int32 → Int32 → zD → Option (zD) => ∀ (x1 : Int32) (x2 : Int32) (D21 : zD), zGO K Y_MD_tick 4 0 0 (zqV z) (j141 x1 x2 D21) 0 0 z D21 141 [(0, .ref r0), (1, .int x1), (2, .int x2)] []) (fun _ _ _ => z_none) (fun j141 h141 x1 x2 D21 => ?_) zfuel) (fun j141 h141 => ?_)
                  · refine z_iload_n (pc := 141) d_MD_tick_141 rfl 2 rfl ?_
                    refine z_aload_n (pc := 142) d_MD_tick_142 rfl 0 rfl ?_
                    refine z_iconst (pc := 143) d_MD_tick_143 ki_1 ?_
                    refine z_iaload (pc := 144) d_MD_tick_144 (fun v22 => ?_)
                    refine z_icmp_ge (pc := 145) (tgt := 169) d_MD_tick_145 (by decide) ?_ ?_
                    · refine z_iincL (pc := 169) d_MD_tick_169 ki_1 1 rfl (by decide) (fun v23 => z_lvc (lv2 := [(1, .int v23), (0, .ref r0), (2, .int x2)]) rfl ?_)
                      refine z_goto (pc := 172) (tgt := 132) d_MD_tick_172 (by decide) ?_
                      exact z_sub [1, 0] rfl (h132 v23 D21)
                    · refine z_jp (fun j163 : Int32 → Int32 → zD → Option (zD) => ∀ (x1 : Int32) (x2 : Int32) (D24 : zD), zGO K Y_MD_tick 4 0 0 (zqV z) (j163 x1 x2 D24) 0 0 z D24 163 [(0, .ref r0), (1, .int x1), (2, .int x2)] []) (fun x1 x2 D24 => ?_) (fun j163 h163 => ?_)
                      · refine z_iincL (pc := 163) d_MD_tick_163 ki_1 2 rfl (by decide) (fun v25 => z_lvc (lv2 := [(2, .int v25), (0, .ref r0), (1, .int x1)]) rfl ?_)
                        refine z_goto (pc := 166) (tgt := 141) d_MD_tick_166 (by decide) ?_
                        exact z_sub [1, 2, 0] rfl (h141 x1 v25 D24)
                      · refine z_aload_n (pc := 148) d_MD_tick_148 rfl 0 rfl ?_
                        refine z_iload_n (pc := 149) d_MD_tick_149 rfl 1 rfl ?_
                        refine z_iload_n (pc := 150) d_MD_tick_150 rfl 2 rfl ?_
                        refine z_callSi (pc := 151) [.ref r0, .int x1, .int x2] lkS_MD_94 (c_MD_isHeardNow z D21 r0 x1 x2) (by decide) rfl rfl (Nat.le_of_ble_eq_true rfl) d_MD_tick_151 (fun v26 D27 => ?_)
                        refine z_if_eq (pc := 154) (tgt := 163) d_MD_tick_154 (by decide) ?_ ?_
                        · exact z_sub [0, 1, 2] rfl (h163 x1 x2 D27)
                        · refine z_aload_n (pc := 157) d_MD_tick_157 rfl 0 rfl ?_
                          refine z_iload_n (pc := 158) d_MD_tick_158 rfl 1 rfl ?_
                          refine z_iload_n (pc := 159) d_MD_tick_159 rfl 2 rfl ?_
                          refine z_callSv (pc := 160) [.ref r0, .int x1, .int x2] lkS_MD_97 (c_MD_hear z D27 r0 x1 x2) (by decide) rfl rfl (Nat.le_of_ble_eq_true rfl) d_MD_tick_160 (fun D28 => ?_)
                          exact z_sub [0, 1, 2] rfl (h163 x1 x2 D28)
                  · refine z_iconst (pc := 139) d_MD_tick_139 ki_0 ?_
                    refine z_istore_n (pc := 140) d_MD_tick_140 rfl (by decide) (lv' := [(2, .int (0 : Int32)), (0, .ref r0), (1, .int x1)]) rfl ?_
                    exact z_sub [1, 2, 0] rfl (h141 x1 (0 : Int32) D7)
              · refine z_iconst (pc := 130) d_MD_tick_130 ki_0 ?_
                refine z_istore_n (pc := 131) d_MD_tick_131 rfl (by decide) (lv' := [(1, .int (0 : Int32)), (0, .ref r0)]) rfl ?_
                exact z_sub [1, 0] rfl (h132 (0 : Int32) D5)
            · refine z_jp (fun j124 : Int32 → zD → Option (zD) => ∀ (x1 : Int32) (D29 : zD), zGO K Y_MD_tick 4 0 0 (zqV z) (j124 x1 D29) 0 0 z D29 124 [(0, .ref r0), (1, .int x1)] []) (fun x1 D29 => ?_) (fun j124 h124 => ?_)
              · refine z_iincL (pc := 124) d_MD_tick_124 ki_1 1 rfl (by decide) (fun v30 => z_lvc (lv2 := [(1, .int v30), (0, .ref r0)]) rfl ?_)
                refine z_goto (pc := 127) (tgt := 89) d_MD_tick_127 (by decide) ?_
                exact z_sub [1, 0] rfl (h89 v30 D29)
              · refine z_aload_n (pc := 96) d_MD_tick_96 rfl 0 rfl ?_
                refine z_iload_n (pc := 97) d_MD_tick_97 rfl 1 rfl ?_
                refine z_iconst (pc := 98) d_MD_tick_98 ki_5 ?_
                refine z_callSi (pc := 99) [.ref r0, .int x1, .int (5 : Int32)] lkS_MD_45 (c_MD_ofSiren z D5 r0 x1 (5 : Int32)) (by decide) rfl rfl (Nat.le_of_ble_eq_true rfl) d_MD_tick_99 (fun v31 D32 => ?_)
                refine z_iconst (pc := 102) d_MD_tick_102 ki_1 ?_
                refine z_icmp_ne (pc := 103) (tgt := 124) d_MD_tick_103 (by decide) ?_ ?_
                · refine z_aload_n (pc := 106) d_MD_tick_106 rfl 0 rfl ?_
                  refine z_iconst (pc := 107) d_MD_tick_107 ki_3 ?_
                  refine z_iaload (pc := 108) d_MD_tick_108 (fun v33 => ?_)
                  refine z_aload_n (pc := 109) d_MD_tick_109 rfl 0 rfl ?_
                  refine z_iload_n (pc := 110) d_MD_tick_110 rfl 1 rfl ?_
                  refine z_iconst (pc := 111) d_MD_tick_111 ki_4 ?_
                  refine z_callSi (pc := 112) [.ref r0, .int x1, .int (4 : Int32)] lkS_MD_45 (c_MD_ofSiren z D32 r0 x1 (4 : Int32)) (by decide) rfl rfl (Nat.le_of_ble_eq_true rfl) d_MD_tick_112 (fun v34 D35 => ?_)
                  refine z_irem (pc := 115) d_MD_tick_115 ?_
                  refine z_if_ne (pc := 116) (tgt := 124) d_MD_tick_116 (by decide) ?_ ?_
                  · refine z_aload_n (pc := 119) d_MD_tick_119 rfl 0 rfl ?_
                    refine z_iload_n (pc := 120) d_MD_tick_120 rfl 1 rfl ?_
                    refine z_callSv (pc := 121) [.ref r0, .int x1] lkS_MD_91 (c_MD_gives z D35 r0 x1) (by decide) rfl rfl (Nat.le_of_ble_eq_true rfl) d_MD_tick_121 (fun D36 => ?_)
                    exact z_sub [0, 1] rfl (h124 x1 D36)
                  · exact z_sub [0, 1] rfl (h124 x1 D35)
                · exact z_sub [0, 1] rfl (h124 x1 D32)
          · refine z_iconst (pc := 87) d_MD_tick_87 ki_0 ?_
            refine z_istore_n (pc := 88) d_MD_tick_88 rfl (by decide) (lv' := [(1, .int (0 : Int32)), (0, .ref r0)]) rfl ?_
            exact z_sub [1, 0] rfl (h89 (0 : Int32) D3)
        · refine z_aload_n (pc := 69) d_MD_tick_69 rfl 0 rfl ?_
          refine z_iload_n (pc := 70) d_MD_tick_70 rfl 1 rfl ?_
          refine z_iconst (pc := 71) d_MD_tick_71 ki_0 ?_
          refine z_callSv (pc := 72) [.ref r0, .int x1, .int (0 : Int32)] lkS_MD_87 (c_MD_walks z D3 r0 x1 (0 : Int32)) (by decide) rfl rfl (Nat.le_of_ble_eq_true rfl) d_MD_tick_72 (fun D37 => ?_)
          refine z_aload_n (pc := 75) d_MD_tick_75 rfl 0 rfl ?_
          refine z_iload_n (pc := 76) d_MD_tick_76 rfl 1 rfl ?_
          refine z_iconst (pc := 77) d_MD_tick_77 ki_1 ?_
          refine z_callSv (pc := 78) [.ref r0, .int x1, .int (1 : Int32)] lkS_MD_87 (c_MD_walks z D37 r0 x1 (1 : Int32)) (by decide) rfl rfl (Nat.le_of_ble_eq_true rfl) d_MD_tick_78 (fun D38 => ?_)
          refine z_iincL (pc := 81) d_MD_tick_81 ki_1 1 rfl (by decide) (fun v39 => z_lvc (lv2 := [(1, .int v39), (0, .ref r0)]) rfl ?_)
          refine z_goto (pc := 84) (tgt := 62) d_MD_tick_84 (by decide) ?_
          exact z_sub [1, 0] rfl (h62 v39 D38)
      · refine z_iconst (pc := 60) d_MD_tick_60 ki_0 ?_
        refine z_istore_n (pc := 61) d_MD_tick_61 rfl (by decide) (lv' := [(1, .int (0 : Int32)), (0, .ref r0)]) rfl ?_
        exact z_sub [1, 0] rfl (h62 (0 : Int32) D1)
    · refine z_aload_n (pc := 16) d_MD_tick_16 rfl 0 rfl ?_
      refine z_bipush (pc := 17) d_MD_tick_17 kb_11 ?_
      refine z_bipush (pc := 19) d_MD_tick_19 kb_7 ?_
      refine z_iload_n (pc := 21) d_MD_tick_21 rfl 1 rfl ?_
      refine z_imul (pc := 22) d_MD_tick_22 ?_
      refine z_iadd (pc := 23) d_MD_tick_23 ?_
      refine z_bipush (pc := 24) d_MD_tick_24 kb_6 ?_
      refine z_iadd (pc := 26) d_MD_tick_26 ?_
      refine z_aload_n (pc := 27) d_MD_tick_27 rfl 0 rfl ?_
      refine z_iload_n (pc := 28) d_MD_tick_28 rfl 1 rfl ?_
      refine z_aload_n (pc := 29) d_MD_tick_29 rfl 0 rfl ?_
      refine z_iload_n (pc := 30) d_MD_tick_30 rfl 1 rfl ?_
      refine z_bipush (pc := 31) d_MD_tick_31 kb_6 ?_
      refine z_callSi (pc := 33) [.ref r0, .int x1, .int (6 : Int32)] lkS_MD_45 (c_MD_ofSiren z D1 r0 x1 (6 : Int32)) (by decide) rfl rfl (Nat.le_of_ble_eq_true rfl) d_MD_tick_33 (fun v40 D41 => ?_)
      refine z_aload_n (pc := 36) d_MD_tick_36 rfl 0 rfl ?_
      refine z_iload_n (pc := 37) d_MD_tick_37 rfl 1 rfl ?_
      refine z_iconst (pc := 38) d_MD_tick_38 ki_5 ?_
      refine z_callSi (pc := 39) [.ref r0, .int x1, .int (5 : Int32)] lkS_MD_45 (c_MD_ofSiren z D41 r0 x1 (5 : Int32)) (by decide) rfl rfl (Nat.le_of_ble_eq_true rfl) d_MD_tick_39 (fun v42 D43 => ?_)
      refine z_aload_n (pc := 42) d_MD_tick_42 rfl 0 rfl ?_
      refine z_iload_n (pc := 43) d_MD_tick_43 rfl 1 rfl ?_
      refine z_iconst (pc := 44) d_MD_tick_44 ki_3 ?_
      refine z_callSi (pc := 45) [.ref r0, .int x1, .int (3 : Int32)] lkS_MD_45 (c_MD_ofSiren z D43 r0 x1 (3 : Int32)) (by decide) rfl rfl (Nat.le_of_ble_eq_true rfl) d_MD_tick_45 (fun v44 D45 => ?_)
      refine z_imul (pc := 48) d_MD_tick_48 ?_
      refine z_iadd (pc := 49) d_MD_tick_49 ?_
      refine z_callSi (pc := 50) [.ref r0, .int x1, .int (v40 + (v42 * v44))] lkS_MD_84 (c_MD_onRing z D45 r0 x1 (v40 + (v42 * v44))) (by decide) rfl rfl (Nat.le_of_ble_eq_true rfl) d_MD_tick_50 (fun v46 D47 => ?_)
      refine z_iastore (pc := 53) d_MD_tick_53 (fun D48 => ?_)
      refine z_iincL (pc := 54) d_MD_tick_54 ki_1 1 rfl (by decide) (fun v49 => z_lvc (lv2 := [(1, .int v49), (0, .ref r0)]) rfl ?_)
      refine z_goto (pc := 57) (tgt := 9) d_MD_tick_57 (by decide) ?_
      exact z_sub [1, 0] rfl (h9 v49 D48)
  · refine z_aload_n (pc := 0) d_MD_tick_0 rfl 0 rfl ?_
    refine z_iconst (pc := 1) d_MD_tick_1 ki_3 ?_
    refine z_dup2 (pc := 2) d_MD_tick_2 rfl rfl ?_
    refine z_iaload (pc := 3) d_MD_tick_3 (fun v50 => ?_)
    refine z_iconst (pc := 4) d_MD_tick_4 ki_1 ?_
    refine z_iadd (pc := 5) d_MD_tick_5 ?_
    refine z_iastore (pc := 6) d_MD_tick_6 (fun D51 => ?_)
    refine z_iconst (pc := 7) d_MD_tick_7 ki_0 ?_
    refine z_istore_n (pc := 8) d_MD_tick_8 rfl (by decide) (lv' := [(1, .int (0 : Int32)), (0, .ref r0)]) rfl ?_
    exact z_sub [1, 0] rfl (h9 (0 : Int32) D51)
theorem d_MD_hearerOf_0 : decode Y_MD_hearerOf.2.1 0 = .ok (.aload_n 0, 1) := by decide +kernel
theorem d_MD_hearerOf_1 : decode Y_MD_hearerOf.2.1 1 = .ok (.aload_n 0, 1) := by decide +kernel
theorem d_MD_hearerOf_2 : decode Y_MD_hearerOf.2.1 2 = .ok (.getfield 13, 3) := by decide +kernel
theorem d_MD_hearerOf_5 : decode Y_MD_hearerOf.2.1 5 = .ok (.iload_n 1, 1) := by decide +kernel
theorem d_MD_hearerOf_6 : decode Y_MD_hearerOf.2.1 6 = .ok (.invokestatic 195, 3) := by decide +kernel
theorem d_MD_hearerOf_9 : decode Y_MD_hearerOf.2.1 9 = .ok (.ifCond .ne (7), 3) := by decide +kernel
theorem d_MD_hearerOf_12 : decode Y_MD_hearerOf.2.1 12 = .ok (.iconst (1), 1) := by decide +kernel
theorem d_MD_hearerOf_13 : decode Y_MD_hearerOf.2.1 13 = .ok (.goto (20), 3) := by decide +kernel
theorem d_MD_hearerOf_16 : decode Y_MD_hearerOf.2.1 16 = .ok (.iload_n 2, 1) := by decide +kernel
theorem d_MD_hearerOf_17 : decode Y_MD_hearerOf.2.1 17 = .ok (.i2l, 1) := by decide +kernel
theorem d_MD_hearerOf_18 : decode Y_MD_hearerOf.2.1 18 = .ok (.lconst 0, 1) := by decide +kernel
theorem d_MD_hearerOf_19 : decode Y_MD_hearerOf.2.1 19 = .ok (.ldc2_w 198, 3) := by decide +kernel
theorem d_MD_hearerOf_22 : decode Y_MD_hearerOf.2.1 22 = .ok (.invokestatic 37, 3) := by decide +kernel
theorem d_MD_hearerOf_25 : decode Y_MD_hearerOf.2.1 25 = .ok (.ifCond .eq (7), 3) := by decide +kernel
theorem d_MD_hearerOf_28 : decode Y_MD_hearerOf.2.1 28 = .ok (.iconst (0), 1) := by decide +kernel
theorem d_MD_hearerOf_29 : decode Y_MD_hearerOf.2.1 29 = .ok (.goto (4), 3) := by decide +kernel
theorem d_MD_hearerOf_32 : decode Y_MD_hearerOf.2.1 32 = .ok (.iconst (2), 1) := by decide +kernel
theorem d_MD_hearerOf_33 : decode Y_MD_hearerOf.2.1 33 = .ok (.invokevirtual 127, 3) := by decide +kernel
theorem d_MD_hearerOf_36 : decode Y_MD_hearerOf.2.1 36 = .ok (.ifCond .eq (5), 3) := by decide +kernel
theorem d_MD_hearerOf_39 : decode Y_MD_hearerOf.2.1 39 = .ok (.iconst (0), 1) := by decide +kernel
theorem d_MD_hearerOf_40 : decode Y_MD_hearerOf.2.1 40 = .ok (.ireturn, 1) := by decide +kernel
theorem d_MD_hearerOf_41 : decode Y_MD_hearerOf.2.1 41 = .ok (.iload_n 2, 1) := by decide +kernel
theorem d_MD_hearerOf_42 : decode Y_MD_hearerOf.2.1 42 = .ok (.iconst (5), 1) := by decide +kernel
theorem d_MD_hearerOf_43 : decode Y_MD_hearerOf.2.1 43 = .ok (.if_icmp .ge (15), 3) := by decide +kernel
theorem d_MD_hearerOf_46 : decode Y_MD_hearerOf.2.1 46 = .ok (.aload_n 0, 1) := by decide +kernel
theorem d_MD_hearerOf_47 : decode Y_MD_hearerOf.2.1 47 = .ok (.getfield 13, 3) := by decide +kernel
theorem d_MD_hearerOf_50 : decode Y_MD_hearerOf.2.1 50 = .ok (.iload_n 1, 1) := by decide +kernel
theorem d_MD_hearerOf_51 : decode Y_MD_hearerOf.2.1 51 = .ok (.iload_n 2, 1) := by decide +kernel
theorem d_MD_hearerOf_52 : decode Y_MD_hearerOf.2.1 52 = .ok (.invokestatic 70, 3) := by decide +kernel
theorem d_MD_hearerOf_55 : decode Y_MD_hearerOf.2.1 55 = .ok (.goto (11), 3) := by decide +kernel
theorem d_MD_hearerOf_58 : decode Y_MD_hearerOf.2.1 58 = .ok (.aload_n 0, 1) := by decide +kernel
theorem d_MD_hearerOf_59 : decode Y_MD_hearerOf.2.1 59 = .ok (.getfield 13, 3) := by decide +kernel
theorem d_MD_hearerOf_62 : decode Y_MD_hearerOf.2.1 62 = .ok (.iload_n 1, 1) := by decide +kernel
theorem d_MD_hearerOf_63 : decode Y_MD_hearerOf.2.1 63 = .ok (.invokestatic 200, 3) := by decide +kernel
theorem d_MD_hearerOf_66 : decode Y_MD_hearerOf.2.1 66 = .ok (.ireturn, 1) := by decide +kernel
def f_MD_hearerOf (w : zW) (D : zD) (a : Nat) (x1 : Int32) (x2 : Int32) : Option (Int32 × zD) := zjp (fun (s0 : Nat) (s1 : Int32) (D1 : zD) => zobj w 8 s0 (zci (f_MD_refused w D1 s0 s1) (fun v2 D3 => (if v2 = 0 then zjp (fun (s0 : Int32) (D4 : zD) => some (s0, D4)) (fun j66 => (if (5 : Int32) ≤ x2 then zref w 8 3 a (fun p5 => zci (f_MD_nearest w D3 p5 x1) (fun v6 D7 => j66 v6 D7)) else zref w 8 3 a (fun p8 => zci (f_MD_ofHearer w D3 p8 x1 x2) (fun v9 D10 => j66 v9 D10)))) else some ((0 : Int32), D3))))) (fun j33 => zref w 8 3 a (fun p11 => zci (f_MD_isHearer w D p11 x1) (fun v12 D13 => (if v12 = 0 then j33 a (1 : Int32) D13 else zci (f_MD_in w D13 x2.toInt64 (0 : Int64) (5 : Int64)) (fun v14 D15 => (if v14 = 0 then j33 a (2 : Int32) D15 else j33 a (0 : Int32) D15))))))
set_option maxHeartbeats 4000000 in
set_option maxRecDepth 100000 in
theorem c_MD_hearerOf (z : zT) (D : zD) (a : Nat) (x1 : Int32) (x2 : Int32) : zM Y_MD_hearerOf 4 0 0 (zqI z) (f_MD_hearerOf z.2 D a x1 x2) [.ref a, .int x1, .int x2] z D := by
  refine zM_of (plainFor_of_name (by decide +kernel)) rfl (Nat.le_of_ble_eq_true rfl) (fun _ _ _ _ h => nomatch h.1) (fun K => ?_)
  unfold f_MD_hearerOf
  refine z_jp (fun j33 : Nat → Int32 → zD → Option (Int32 × zD) => ∀ (s0 : Nat) (s1 : Int32) (D1 : zD), zGO K Y_MD_hearerOf 4 0 0 (zqI z) (j33 s0 s1 D1) 0 0 z D1 33 [(0, .ref a), (1, .int x1), (2, .int x2)] [.int s1, .ref s0]) (fun s0 s1 D1 => ?_) (fun j33 h33 => ?_)
  · refine z_callVi (pc := 33) [.int s1] lkV_MD_127 rfl (c_MD_refused z D1 s0 s1) (by decide) rfl rfl (Nat.le_of_ble_eq_true rfl) d_MD_hearerOf_33 (fun v2 D3 => ?_)
    refine z_if_eq (pc := 36) (tgt := 41) d_MD_hearerOf_36 (by decide) ?_ ?_
    · refine z_jp (fun j66 : Int32 → zD → Option (Int32 × zD) => ∀ (s0 : Int32) (D4 : zD), zGO K Y_MD_hearerOf 4 0 0 (zqI z) (j66 s0 D4) 0 0 z D4 66 [] [.int s0]) (fun s0 D4 => ?_) (fun j66 h66 => ?_)
      · exact z_iret (pc := 66) d_MD_hearerOf_66 rfl
      · refine z_iload_n (pc := 41) d_MD_hearerOf_41 rfl 2 rfl ?_
        refine z_iconst (pc := 42) d_MD_hearerOf_42 ki_5 ?_
        refine z_icmp_ge (pc := 43) (tgt := 58) d_MD_hearerOf_43 (by decide) ?_ ?_
        · refine z_aload_n (pc := 58) d_MD_hearerOf_58 rfl 0 rfl ?_
          refine z_getR (pc := 59) fl_MD_13 d_MD_hearerOf_59 (fun p5 => ?_)
          refine z_iload_n (pc := 62) d_MD_hearerOf_62 rfl 1 rfl ?_
          refine z_callSi (pc := 63) [.ref p5, .int x1] lkS_MD_200 (c_MD_nearest z D3 p5 x1) (by decide) rfl rfl (Nat.le_of_ble_eq_true rfl) d_MD_hearerOf_63 (fun v6 D7 => ?_)
          exact z_sub [] rfl (h66 v6 D7)
        · refine z_aload_n (pc := 46) d_MD_hearerOf_46 rfl 0 rfl ?_
          refine z_getR (pc := 47) fl_MD_13 d_MD_hearerOf_47 (fun p8 => ?_)
          refine z_iload_n (pc := 50) d_MD_hearerOf_50 rfl 1 rfl ?_
          refine z_iload_n (pc := 51) d_MD_hearerOf_51 rfl 2 rfl ?_
          refine z_callSi (pc := 52) [.ref p8, .int x1, .int x2] lkS_MD_70 (c_MD_ofHearer z D3 p8 x1 x2) (by decide) rfl rfl (Nat.le_of_ble_eq_true rfl) d_MD_hearerOf_52 (fun v9 D10 => ?_)
          refine z_goto (pc := 55) (tgt := 66) d_MD_hearerOf_55 (by decide) ?_
          exact z_sub [] rfl (h66 v9 D10)
    · refine z_iconst (pc := 39) d_MD_hearerOf_39 ki_0 ?_
      exact z_iret (pc := 40) d_MD_hearerOf_40 rfl
  · refine z_aload_n (pc := 0) d_MD_hearerOf_0 rfl 0 rfl ?_
    refine z_aload_n (pc := 1) d_MD_hearerOf_1 rfl 0 rfl ?_
    refine z_getR (pc := 2) fl_MD_13 d_MD_hearerOf_2 (fun p11 => ?_)
    refine z_iload_n (pc := 5) d_MD_hearerOf_5 rfl 1 rfl ?_
    refine z_callSi (pc := 6) [.ref p11, .int x1] lkS_MD_195 (c_MD_isHearer z D p11 x1) (by decide) rfl rfl (Nat.le_of_ble_eq_true rfl) d_MD_hearerOf_6 (fun v12 D13 => ?_)
    refine z_if_ne (pc := 9) (tgt := 16) d_MD_hearerOf_9 (by decide) ?_ ?_
    · refine z_iconst (pc := 12) d_MD_hearerOf_12 ki_1 ?_
      refine z_goto (pc := 13) (tgt := 33) d_MD_hearerOf_13 (by decide) ?_
      exact z_sub [0, 1, 2] rfl (h33 a (1 : Int32) D13)
    · refine z_iload_n (pc := 16) d_MD_hearerOf_16 rfl 2 rfl ?_
      refine z_i2l (pc := 17) d_MD_hearerOf_17 ?_
      refine z_lconst (pc := 18) d_MD_hearerOf_18 (v := 0) rfl ?_
      refine z_ldc2 (pc := 19) w_k_MD_198 d_MD_hearerOf_19 ?_
      refine z_callSi (pc := 22) [.long x2.toInt64, .long (0 : Int64), .long (5 : Int64)] lkS_MD_37 (c_MD_in z D13 x2.toInt64 (0 : Int64) (5 : Int64)) (by decide) rfl rfl (Nat.le_of_ble_eq_true rfl) d_MD_hearerOf_22 (fun v14 D15 => ?_)
      refine z_if_eq (pc := 25) (tgt := 32) d_MD_hearerOf_25 (by decide) ?_ ?_
      · refine z_iconst (pc := 32) d_MD_hearerOf_32 ki_2 ?_
        exact z_sub [0, 1, 2] rfl (h33 a (2 : Int32) D15)
      · refine z_iconst (pc := 28) d_MD_hearerOf_28 ki_0 ?_
        refine z_goto (pc := 29) (tgt := 33) d_MD_hearerOf_29 (by decide) ?_
        exact z_sub [0, 1, 2] rfl (h33 a (0 : Int32) D15)
theorem d_MD_sirenIn_0 : decode Y_MD_sirenIn.2.1 0 = .ok (.aload_n 0, 1) := by decide +kernel
theorem d_MD_sirenIn_1 : decode Y_MD_sirenIn.2.1 1 = .ok (.aload_n 0, 1) := by decide +kernel
theorem d_MD_sirenIn_2 : decode Y_MD_sirenIn.2.1 2 = .ok (.getfield 13, 3) := by decide +kernel
theorem d_MD_sirenIn_5 : decode Y_MD_sirenIn.2.1 5 = .ok (.iload_n 1, 1) := by decide +kernel
theorem d_MD_sirenIn_6 : decode Y_MD_sirenIn.2.1 6 = .ok (.invokestatic 168, 3) := by decide +kernel
theorem d_MD_sirenIn_9 : decode Y_MD_sirenIn.2.1 9 = .ok (.ifCond .ne (7), 3) := by decide +kernel
theorem d_MD_sirenIn_12 : decode Y_MD_sirenIn.2.1 12 = .ok (.iconst (1), 1) := by decide +kernel
theorem d_MD_sirenIn_13 : decode Y_MD_sirenIn.2.1 13 = .ok (.goto (30), 3) := by decide +kernel
theorem d_MD_sirenIn_16 : decode Y_MD_sirenIn.2.1 16 = .ok (.iload_n 2, 1) := by decide +kernel
theorem d_MD_sirenIn_17 : decode Y_MD_sirenIn.2.1 17 = .ok (.i2l, 1) := by decide +kernel
theorem d_MD_sirenIn_18 : decode Y_MD_sirenIn.2.1 18 = .ok (.lconst 0, 1) := by decide +kernel
theorem d_MD_sirenIn_19 : decode Y_MD_sirenIn.2.1 19 = .ok (.ldc2_w 232, 3) := by decide +kernel
theorem d_MD_sirenIn_22 : decode Y_MD_sirenIn.2.1 22 = .ok (.invokestatic 37, 3) := by decide +kernel
theorem d_MD_sirenIn_25 : decode Y_MD_sirenIn.2.1 25 = .ok (.ifCond .eq (17), 3) := by decide +kernel
theorem d_MD_sirenIn_28 : decode Y_MD_sirenIn.2.1 28 = .ok (.iload_n 3, 1) := by decide +kernel
theorem d_MD_sirenIn_29 : decode Y_MD_sirenIn.2.1 29 = .ok (.i2l, 1) := by decide +kernel
theorem d_MD_sirenIn_30 : decode Y_MD_sirenIn.2.1 30 = .ok (.lconst 0, 1) := by decide +kernel
theorem d_MD_sirenIn_31 : decode Y_MD_sirenIn.2.1 31 = .ok (.lconst 1, 1) := by decide +kernel
theorem d_MD_sirenIn_32 : decode Y_MD_sirenIn.2.1 32 = .ok (.invokestatic 37, 3) := by decide +kernel
theorem d_MD_sirenIn_35 : decode Y_MD_sirenIn.2.1 35 = .ok (.ifCond .eq (7), 3) := by decide +kernel
theorem d_MD_sirenIn_38 : decode Y_MD_sirenIn.2.1 38 = .ok (.iconst (0), 1) := by decide +kernel
theorem d_MD_sirenIn_39 : decode Y_MD_sirenIn.2.1 39 = .ok (.goto (4), 3) := by decide +kernel
theorem d_MD_sirenIn_42 : decode Y_MD_sirenIn.2.1 42 = .ok (.iconst (2), 1) := by decide +kernel
theorem d_MD_sirenIn_43 : decode Y_MD_sirenIn.2.1 43 = .ok (.invokevirtual 127, 3) := by decide +kernel
theorem d_MD_sirenIn_46 : decode Y_MD_sirenIn.2.1 46 = .ok (.ifCond .eq (5), 3) := by decide +kernel
theorem d_MD_sirenIn_49 : decode Y_MD_sirenIn.2.1 49 = .ok (.iconst (0), 1) := by decide +kernel
theorem d_MD_sirenIn_50 : decode Y_MD_sirenIn.2.1 50 = .ok (.ireturn, 1) := by decide +kernel
theorem d_MD_sirenIn_51 : decode Y_MD_sirenIn.2.1 51 = .ok (.aload_n 0, 1) := by decide +kernel
theorem d_MD_sirenIn_52 : decode Y_MD_sirenIn.2.1 52 = .ok (.getfield 13, 3) := by decide +kernel
theorem d_MD_sirenIn_55 : decode Y_MD_sirenIn.2.1 55 = .ok (.iload_n 1, 1) := by decide +kernel
theorem d_MD_sirenIn_56 : decode Y_MD_sirenIn.2.1 56 = .ok (.aload_n 0, 1) := by decide +kernel
theorem d_MD_sirenIn_57 : decode Y_MD_sirenIn.2.1 57 = .ok (.getfield 13, 3) := by decide +kernel
theorem d_MD_sirenIn_60 : decode Y_MD_sirenIn.2.1 60 = .ok (.iload_n 1, 1) := by decide +kernel
theorem d_MD_sirenIn_61 : decode Y_MD_sirenIn.2.1 61 = .ok (.bipush (6), 2) := by decide +kernel
theorem d_MD_sirenIn_63 : decode Y_MD_sirenIn.2.1 63 = .ok (.invokestatic 45, 3) := by decide +kernel
theorem d_MD_sirenIn_66 : decode Y_MD_sirenIn.2.1 66 = .ok (.iload_n 2, 1) := by decide +kernel
theorem d_MD_sirenIn_67 : decode Y_MD_sirenIn.2.1 67 = .ok (.aload_n 0, 1) := by decide +kernel
theorem d_MD_sirenIn_68 : decode Y_MD_sirenIn.2.1 68 = .ok (.getfield 13, 3) := by decide +kernel
theorem d_MD_sirenIn_71 : decode Y_MD_sirenIn.2.1 71 = .ok (.iload_n 1, 1) := by decide +kernel
theorem d_MD_sirenIn_72 : decode Y_MD_sirenIn.2.1 72 = .ok (.iconst (5), 1) := by decide +kernel
theorem d_MD_sirenIn_73 : decode Y_MD_sirenIn.2.1 73 = .ok (.invokestatic 45, 3) := by decide +kernel
theorem d_MD_sirenIn_76 : decode Y_MD_sirenIn.2.1 76 = .ok (.imul, 1) := by decide +kernel
theorem d_MD_sirenIn_77 : decode Y_MD_sirenIn.2.1 77 = .ok (.aload_n 0, 1) := by decide +kernel
theorem d_MD_sirenIn_78 : decode Y_MD_sirenIn.2.1 78 = .ok (.getfield 13, 3) := by decide +kernel
theorem d_MD_sirenIn_81 : decode Y_MD_sirenIn.2.1 81 = .ok (.iload_n 1, 1) := by decide +kernel
theorem d_MD_sirenIn_82 : decode Y_MD_sirenIn.2.1 82 = .ok (.iconst (3), 1) := by decide +kernel
theorem d_MD_sirenIn_83 : decode Y_MD_sirenIn.2.1 83 = .ok (.invokestatic 45, 3) := by decide +kernel
theorem d_MD_sirenIn_86 : decode Y_MD_sirenIn.2.1 86 = .ok (.imul, 1) := by decide +kernel
theorem d_MD_sirenIn_87 : decode Y_MD_sirenIn.2.1 87 = .ok (.iadd, 1) := by decide +kernel
theorem d_MD_sirenIn_88 : decode Y_MD_sirenIn.2.1 88 = .ok (.invokestatic 84, 3) := by decide +kernel
theorem d_MD_sirenIn_91 : decode Y_MD_sirenIn.2.1 91 = .ok (.ireturn, 1) := by decide +kernel
def f_MD_sirenIn (w : zW) (D : zD) (a : Nat) (x1 : Int32) (x2 : Int32) (x3 : Int32) : Option (Int32 × zD) := zjp (fun (s0 : Nat) (s1 : Int32) (D1 : zD) => zobj w 8 s0 (zci (f_MD_refused w D1 s0 s1) (fun v2 D3 => (if v2 = 0 then zref w 8 3 a (fun p4 => zref w 8 3 a (fun p5 => zci (f_MD_ofSiren w D3 p5 x1 (6 : Int32)) (fun v6 D7 => zref w 8 3 a (fun p8 => zci (f_MD_ofSiren w D7 p8 x1 (5 : Int32)) (fun v9 D10 => zref w 8 3 a (fun p11 => zci (f_MD_ofSiren w D10 p11 x1 (3 : Int32)) (fun v12 D13 => zci (f_MD_onRing w D13 p4 x1 (v6 + ((x2 * v9) * v12))) (fun v14 D15 => some (v14, D15))))))))) else some ((0 : Int32), D3))))) (fun j43 => zref w 8 3 a (fun p16 => zci (f_MD_isSiren w D p16 x1) (fun v17 D18 => (if v17 = 0 then j43 a (1 : Int32) D18 else zjp (fun (s0 : Nat) (D19 : zD) => j43 s0 (2 : Int32) D19) (fun j42 => zci (f_MD_in w D18 x2.toInt64 (0 : Int64) (1000 : Int64)) (fun v20 D21 => (if v20 = 0 then j42 a D21 else zci (f_MD_in w D21 x3.toInt64 (0 : Int64) (1 : Int64)) (fun v22 D23 => (if v22 = 0 then j42 a D23 else j43 a (0 : Int32) D23)))))))))
set_option maxHeartbeats 4000000 in
set_option maxRecDepth 100000 in
theorem c_MD_sirenIn (z : zT) (D : zD) (a : Nat) (x1 : Int32) (x2 : Int32) (x3 : Int32) : zM Y_MD_sirenIn 4 0 0 (zqI z) (f_MD_sirenIn z.2 D a x1 x2 x3) [.ref a, .int x1, .int x2, .int x3] z D := by
  refine zM_of (plainFor_of_name (by decide +kernel)) rfl (Nat.le_of_ble_eq_true rfl) (fun _ _ _ _ h => nomatch h.1) (fun K => ?_)
  unfold f_MD_sirenIn
  refine z_jp (fun j43 : Nat → Int32 → zD → Option (Int32 × zD) => ∀ (s0 : Nat) (s1 : Int32) (D1 : zD), zGO K Y_MD_sirenIn 4 0 0 (zqI z) (j43 s0 s1 D1) 0 0 z D1 43 [(0, .ref a), (1, .int x1), (2, .int x2)] [.int s1, .ref s0]) (fun s0 s1 D1 => ?_) (fun j43 h43 => ?_)
  · refine z_callVi (pc := 43) [.int s1] lkV_MD_127 rfl (c_MD_refused z D1 s0 s1) (by decide) rfl rfl (Nat.le_of_ble_eq_true rfl) d_MD_sirenIn_43 (fun v2 D3 => ?_)
    refine z_if_eq (pc := 46) (tgt := 51) d_MD_sirenIn_46 (by decide) ?_ ?_
    · refine z_aload_n (pc := 51) d_MD_sirenIn_51 rfl 0 rfl ?_
      refine z_getR (pc := 52) fl_MD_13 d_MD_sirenIn_52 (fun p4 => ?_)
      refine z_iload_n (pc := 55) d_MD_sirenIn_55 rfl 1 rfl ?_
      refine z_aload_n (pc := 56) d_MD_sirenIn_56 rfl 0 rfl ?_
      refine z_getR (pc := 57) fl_MD_13 d_MD_sirenIn_57 (fun p5 => ?_)
      refine z_iload_n (pc := 60) d_MD_sirenIn_60 rfl 1 rfl ?_
      refine z_bipush (pc := 61) d_MD_sirenIn_61 kb_6 ?_
      refine z_callSi (pc := 63) [.ref p5, .int x1, .int (6 : Int32)] lkS_MD_45 (c_MD_ofSiren z D3 p5 x1 (6 : Int32)) (by decide) rfl rfl (Nat.le_of_ble_eq_true rfl) d_MD_sirenIn_63 (fun v6 D7 => ?_)
      refine z_iload_n (pc := 66) d_MD_sirenIn_66 rfl 2 rfl ?_
      refine z_aload_n (pc := 67) d_MD_sirenIn_67 rfl 0 rfl ?_
      refine z_getR (pc := 68) fl_MD_13 d_MD_sirenIn_68 (fun p8 => ?_)
      refine z_iload_n (pc := 71) d_MD_sirenIn_71 rfl 1 rfl ?_
      refine z_iconst (pc := 72) d_MD_sirenIn_72 ki_5 ?_
      refine z_callSi (pc := 73) [.ref p8, .int x1, .int (5 : Int32)] lkS_MD_45 (c_MD_ofSiren z D7 p8 x1 (5 : Int32)) (by decide) rfl rfl (Nat.le_of_ble_eq_true rfl) d_MD_sirenIn_73 (fun v9 D10 => ?_)
      refine z_imul (pc := 76) d_MD_sirenIn_76 ?_
      refine z_aload_n (pc := 77) d_MD_sirenIn_77 rfl 0 rfl ?_
      refine z_getR (pc := 78) fl_MD_13 d_MD_sirenIn_78 (fun p11 => ?_)
      refine z_iload_n (pc := 81) d_MD_sirenIn_81 rfl 1 rfl ?_
      refine z_iconst (pc := 82) d_MD_sirenIn_82 ki_3 ?_
      refine z_callSi (pc := 83) [.ref p11, .int x1, .int (3 : Int32)] lkS_MD_45 (c_MD_ofSiren z D10 p11 x1 (3 : Int32)) (by decide) rfl rfl (Nat.le_of_ble_eq_true rfl) d_MD_sirenIn_83 (fun v12 D13 => ?_)
      refine z_imul (pc := 86) d_MD_sirenIn_86 ?_
      refine z_iadd (pc := 87) d_MD_sirenIn_87 ?_
      refine z_callSi (pc := 88) [.ref p4, .int x1, .int (v6 + ((x2 * v9) * v12))] lkS_MD_84 (c_MD_onRing z D13 p4 x1 (v6 + ((x2 * v9) * v12))) (by decide) rfl rfl (Nat.le_of_ble_eq_true rfl) d_MD_sirenIn_88 (fun v14 D15 => ?_)
      exact z_iret (pc := 91) d_MD_sirenIn_91 rfl
    · refine z_iconst (pc := 49) d_MD_sirenIn_49 ki_0 ?_
      exact z_iret (pc := 50) d_MD_sirenIn_50 rfl
  · refine z_aload_n (pc := 0) d_MD_sirenIn_0 rfl 0 rfl ?_
    refine z_aload_n (pc := 1) d_MD_sirenIn_1 rfl 0 rfl ?_
    refine z_getR (pc := 2) fl_MD_13 d_MD_sirenIn_2 (fun p16 => ?_)
    refine z_iload_n (pc := 5) d_MD_sirenIn_5 rfl 1 rfl ?_
    refine z_callSi (pc := 6) [.ref p16, .int x1] lkS_MD_168 (c_MD_isSiren z D p16 x1) (by decide) rfl rfl (Nat.le_of_ble_eq_true rfl) d_MD_sirenIn_6 (fun v17 D18 => ?_)
    refine z_if_ne (pc := 9) (tgt := 16) d_MD_sirenIn_9 (by decide) ?_ ?_
    · refine z_iconst (pc := 12) d_MD_sirenIn_12 ki_1 ?_
      refine z_goto (pc := 13) (tgt := 43) d_MD_sirenIn_13 (by decide) ?_
      exact z_sub [0, 1, 2] rfl (h43 a (1 : Int32) D18)
    · refine z_jp (fun j42 : Nat → zD → Option (Int32 × zD) => ∀ (s0 : Nat) (D19 : zD), zGO K Y_MD_sirenIn 4 0 0 (zqI z) (j42 s0 D19) 0 0 z D19 42 [(0, .ref a), (1, .int x1), (2, .int x2)] [.ref s0]) (fun s0 D19 => ?_) (fun j42 h42 => ?_)
      · refine z_iconst (pc := 42) d_MD_sirenIn_42 ki_2 ?_
        exact z_sub [0, 1, 2] rfl (h43 s0 (2 : Int32) D19)
      · refine z_iload_n (pc := 16) d_MD_sirenIn_16 rfl 2 rfl ?_
        refine z_i2l (pc := 17) d_MD_sirenIn_17 ?_
        refine z_lconst (pc := 18) d_MD_sirenIn_18 (v := 0) rfl ?_
        refine z_ldc2 (pc := 19) w_k_MD_232 d_MD_sirenIn_19 ?_
        refine z_callSi (pc := 22) [.long x2.toInt64, .long (0 : Int64), .long (1000 : Int64)] lkS_MD_37 (c_MD_in z D18 x2.toInt64 (0 : Int64) (1000 : Int64)) (by decide) rfl rfl (Nat.le_of_ble_eq_true rfl) d_MD_sirenIn_22 (fun v20 D21 => ?_)
        refine z_if_eq (pc := 25) (tgt := 42) d_MD_sirenIn_25 (by decide) ?_ ?_
        · exact z_sub [0, 1, 2] rfl (h42 a D21)
        · refine z_iload_n (pc := 28) d_MD_sirenIn_28 rfl 3 rfl ?_
          refine z_i2l (pc := 29) d_MD_sirenIn_29 ?_
          refine z_lconst (pc := 30) d_MD_sirenIn_30 (v := 0) rfl ?_
          refine z_lconst (pc := 31) d_MD_sirenIn_31 (v := 1) rfl ?_
          refine z_callSi (pc := 32) [.long x3.toInt64, .long (0 : Int64), .long (1 : Int64)] lkS_MD_37 (c_MD_in z D21 x3.toInt64 (0 : Int64) (1 : Int64)) (by decide) rfl rfl (Nat.le_of_ble_eq_true rfl) d_MD_sirenIn_32 (fun v22 D23 => ?_)
          refine z_if_eq (pc := 35) (tgt := 42) d_MD_sirenIn_35 (by decide) ?_ ?_
          · exact z_sub [0, 1, 2] rfl (h42 a D23)
          · refine z_iconst (pc := 38) d_MD_sirenIn_38 ki_0 ?_
            refine z_goto (pc := 39) (tgt := 43) d_MD_sirenIn_39 (by decide) ?_
            exact z_sub [0, 1, 2] rfl (h43 a (0 : Int32) D23)
theorem d_MD_ticksOn_0 : decode Y_MD_ticksOn.2.1 0 = .ok (.aload_n 0, 1) := by decide +kernel
theorem d_MD_ticksOn_1 : decode Y_MD_ticksOn.2.1 1 = .ok (.bipush (6), 2) := by decide +kernel
theorem d_MD_ticksOn_3 : decode Y_MD_ticksOn.2.1 3 = .ok (.iaload, 1) := by decide +kernel
theorem d_MD_ticksOn_4 : decode Y_MD_ticksOn.2.1 4 = .ok (.aload_n 0, 1) := by decide +kernel
theorem d_MD_ticksOn_5 : decode Y_MD_ticksOn.2.1 5 = .ok (.bipush (7), 2) := by decide +kernel
theorem d_MD_ticksOn_7 : decode Y_MD_ticksOn.2.1 7 = .ok (.iaload, 1) := by decide +kernel
theorem d_MD_ticksOn_8 : decode Y_MD_ticksOn.2.1 8 = .ok (.iadd, 1) := by decide +kernel
theorem d_MD_ticksOn_9 : decode Y_MD_ticksOn.2.1 9 = .ok (.istore_n 2, 1) := by decide +kernel
theorem d_MD_ticksOn_10 : decode Y_MD_ticksOn.2.1 10 = .ok (.iconst (0), 1) := by decide +kernel
theorem d_MD_ticksOn_11 : decode Y_MD_ticksOn.2.1 11 = .ok (.istore_n 3, 1) := by decide +kernel
theorem d_MD_ticksOn_12 : decode Y_MD_ticksOn.2.1 12 = .ok (.iload_n 3, 1) := by decide +kernel
theorem d_MD_ticksOn_13 : decode Y_MD_ticksOn.2.1 13 = .ok (.iload_n 1, 1) := by decide +kernel
theorem d_MD_ticksOn_14 : decode Y_MD_ticksOn.2.1 14 = .ok (.if_icmp .ge (13), 3) := by decide +kernel
theorem d_MD_ticksOn_17 : decode Y_MD_ticksOn.2.1 17 = .ok (.aload_n 0, 1) := by decide +kernel
theorem d_MD_ticksOn_18 : decode Y_MD_ticksOn.2.1 18 = .ok (.invokestatic 107, 3) := by decide +kernel
theorem d_MD_ticksOn_21 : decode Y_MD_ticksOn.2.1 21 = .ok (.iinc 3 (1), 3) := by decide +kernel
theorem d_MD_ticksOn_24 : decode Y_MD_ticksOn.2.1 24 = .ok (.goto (-12), 3) := by decide +kernel
theorem d_MD_ticksOn_27 : decode Y_MD_ticksOn.2.1 27 = .ok (.aload_n 0, 1) := by decide +kernel
theorem d_MD_ticksOn_28 : decode Y_MD_ticksOn.2.1 28 = .ok (.bipush (6), 2) := by decide +kernel
theorem d_MD_ticksOn_30 : decode Y_MD_ticksOn.2.1 30 = .ok (.iaload, 1) := by decide +kernel
theorem d_MD_ticksOn_31 : decode Y_MD_ticksOn.2.1 31 = .ok (.aload_n 0, 1) := by decide +kernel
theorem d_MD_ticksOn_32 : decode Y_MD_ticksOn.2.1 32 = .ok (.bipush (7), 2) := by decide +kernel
theorem d_MD_ticksOn_34 : decode Y_MD_ticksOn.2.1 34 = .ok (.iaload, 1) := by decide +kernel
theorem d_MD_ticksOn_35 : decode Y_MD_ticksOn.2.1 35 = .ok (.iadd, 1) := by decide +kernel
theorem d_MD_ticksOn_36 : decode Y_MD_ticksOn.2.1 36 = .ok (.iload_n 2, 1) := by decide +kernel
theorem d_MD_ticksOn_37 : decode Y_MD_ticksOn.2.1 37 = .ok (.isub, 1) := by decide +kernel
theorem d_MD_ticksOn_38 : decode Y_MD_ticksOn.2.1 38 = .ok (.ireturn, 1) := by decide +kernel
def f_MD_ticksOn (w : zW) (D : zD) (r0 : Nat) (x1 : Int32) : Option (Int32 × zD) := zjp (zlp (fun (_ : Int32) (_ : Int32) (_ : zD) => none) (fun (j12 : Int32 → Int32 → zD → Option (Int32 × zD)) (x2 : Int32) (x3 : Int32) (D1 : zD) => (if x1 ≤ x3 then zald w D1 0 r0 (6 : Int32) (fun v2 => zald w D1 0 r0 (7 : Int32) (fun v3 => some ((v2 + v3) - x2, D1))) else zcv (f_MD_tick w D1 r0) (fun D4 => zlet (x3 + (1 : Int32)) (fun v5 => j12 x2 v5 D4)))) zfuel) (fun j12 => zald w D 0 r0 (6 : Int32) (fun v6 => zald w D 0 r0 (7 : Int32) (fun v7 => zlet (v6 + v7) (fun v8 => j12 v8 (0 : Int32) D))))
set_option maxHeartbeats 4000000 in
set_option maxRecDepth 100000 in
theorem c_MD_ticksOn (z : zT) (D : zD) (r0 : Nat) (x1 : Int32) : zM Y_MD_ticksOn 5 0 0 (zqI z) (f_MD_ticksOn z.2 D r0 x1) [.ref r0, .int x1] z D := by
  refine zM_of (plainFor_of_name (by decide +kernel)) rfl (Nat.le_of_ble_eq_true rfl) (fun _ _ _ _ h => nomatch h.1) (fun K => ?_)
  unfold f_MD_ticksOn
  refine z_jp (fun j12 : Int32 → Int32 → zD → Option (Int32 × zD) => ∀ (x2 : Int32) (x3 : Int32) (D1 : zD), zGO K Y_MD_ticksOn 5 0 0 (zqI z) (j12 x2 x3 D1) 0 0 z D1 12 [(0, .ref r0), (1, .int x1), (2, .int x2), (3, .int x3)] []) (z_lp (fun j12 : Int32 → Int32 → zD → Option (Int32 × zD) => ∀ (x2 : Int32) (x3 : Int32) (D1 : zD), zGO K Y_MD_ticksOn 5 0 0 (zqI z) (j12 x2 x3 D1) 0 0 z D1 12 [(0, .ref r0), (1, .int x1), (2, .int x2), (3, .int x3)] []) (fun _ _ _ => z_none) (fun j12 h12 x2 x3 D1 => ?_) zfuel) (fun j12 h12 => ?_)
  · refine z_iload_n (pc := 12) d_MD_ticksOn_12 rfl 3 rfl ?_
    refine z_iload_n (pc := 13) d_MD_ticksOn_13 rfl 1 rfl ?_
    refine z_icmp_ge (pc := 14) (tgt := 27) d_MD_ticksOn_14 (by decide) ?_ ?_
    · refine z_aload_n (pc := 27) d_MD_ticksOn_27 rfl 0 rfl ?_
      refine z_bipush (pc := 28) d_MD_ticksOn_28 kb_6 ?_
      refine z_iaload (pc := 30) d_MD_ticksOn_30 (fun v2 => ?_)
      refine z_aload_n (pc := 31) d_MD_ticksOn_31 rfl 0 rfl ?_
      refine z_bipush (pc := 32) d_MD_ticksOn_32 kb_7 ?_
      refine z_iaload (pc := 34) d_MD_ticksOn_34 (fun v3 => ?_)
      refine z_iadd (pc := 35) d_MD_ticksOn_35 ?_
      refine z_iload_n (pc := 36) d_MD_ticksOn_36 rfl 2 rfl ?_
      refine z_isub (pc := 37) d_MD_ticksOn_37 ?_
      exact z_iret (pc := 38) d_MD_ticksOn_38 rfl
    · refine z_aload_n (pc := 17) d_MD_ticksOn_17 rfl 0 rfl ?_
      refine z_callSv (pc := 18) [.ref r0] lkS_MD_107 (c_MD_tick z D1 r0) (by decide) rfl rfl (Nat.le_of_ble_eq_true rfl) d_MD_ticksOn_18 (fun D4 => ?_)
      refine z_iincL (pc := 21) d_MD_ticksOn_21 ki_1 3 rfl (by decide) (fun v5 => z_lvc (lv2 := [(3, .int v5), (0, .ref r0), (1, .int x1), (2, .int x2)]) rfl ?_)
      refine z_goto (pc := 24) (tgt := 12) d_MD_ticksOn_24 (by decide) ?_
      exact z_sub [1, 2, 3, 0] rfl (h12 x2 v5 D4)
  · refine z_aload_n (pc := 0) d_MD_ticksOn_0 rfl 0 rfl ?_
    refine z_bipush (pc := 1) d_MD_ticksOn_1 kb_6 ?_
    refine z_iaload (pc := 3) d_MD_ticksOn_3 (fun v6 => ?_)
    refine z_aload_n (pc := 4) d_MD_ticksOn_4 rfl 0 rfl ?_
    refine z_bipush (pc := 5) d_MD_ticksOn_5 kb_7 ?_
    refine z_iaload (pc := 7) d_MD_ticksOn_7 (fun v7 => ?_)
    refine z_iadd (pc := 8) d_MD_ticksOn_8 ?_
    refine z_leti (fun v8 => ?_)
    refine z_istore_n (pc := 9) d_MD_ticksOn_9 rfl (by decide) (lv' := [(2, .int v8), (0, .ref r0), (1, .int x1)]) rfl ?_
    refine z_iconst (pc := 10) d_MD_ticksOn_10 ki_0 ?_
    refine z_istore_n (pc := 11) d_MD_ticksOn_11 rfl (by decide) (lv' := [(3, .int (0 : Int32)), (2, .int v8), (0, .ref r0), (1, .int x1)]) rfl ?_
    exact z_sub [2, 3, 1, 0] rfl (h12 v8 (0 : Int32) D)
theorem d_MD_heardIn_0 : decode Y_MD_heardIn.2.1 0 = .ok (.aload_n 0, 1) := by decide +kernel
theorem d_MD_heardIn_1 : decode Y_MD_heardIn.2.1 1 = .ok (.aload_n 0, 1) := by decide +kernel
theorem d_MD_heardIn_2 : decode Y_MD_heardIn.2.1 2 = .ok (.getfield 13, 3) := by decide +kernel
theorem d_MD_heardIn_5 : decode Y_MD_heardIn.2.1 5 = .ok (.iload_n 1, 1) := by decide +kernel
theorem d_MD_heardIn_6 : decode Y_MD_heardIn.2.1 6 = .ok (.invokestatic 195, 3) := by decide +kernel
theorem d_MD_heardIn_9 : decode Y_MD_heardIn.2.1 9 = .ok (.ifCond .eq (18), 3) := by decide +kernel
theorem d_MD_heardIn_12 : decode Y_MD_heardIn.2.1 12 = .ok (.aload_n 0, 1) := by decide +kernel
theorem d_MD_heardIn_13 : decode Y_MD_heardIn.2.1 13 = .ok (.getfield 13, 3) := by decide +kernel
theorem d_MD_heardIn_16 : decode Y_MD_heardIn.2.1 16 = .ok (.iload_n 2, 1) := by decide +kernel
theorem d_MD_heardIn_17 : decode Y_MD_heardIn.2.1 17 = .ok (.invokestatic 168, 3) := by decide +kernel
theorem d_MD_heardIn_20 : decode Y_MD_heardIn.2.1 20 = .ok (.ifCond .eq (7), 3) := by decide +kernel
theorem d_MD_heardIn_23 : decode Y_MD_heardIn.2.1 23 = .ok (.iconst (0), 1) := by decide +kernel
theorem d_MD_heardIn_24 : decode Y_MD_heardIn.2.1 24 = .ok (.goto (4), 3) := by decide +kernel
theorem d_MD_heardIn_27 : decode Y_MD_heardIn.2.1 27 = .ok (.iconst (1), 1) := by decide +kernel
theorem d_MD_heardIn_28 : decode Y_MD_heardIn.2.1 28 = .ok (.invokevirtual 127, 3) := by decide +kernel
theorem d_MD_heardIn_31 : decode Y_MD_heardIn.2.1 31 = .ok (.ifCond .eq (5), 3) := by decide +kernel
theorem d_MD_heardIn_34 : decode Y_MD_heardIn.2.1 34 = .ok (.iconst (0), 1) := by decide +kernel
theorem d_MD_heardIn_35 : decode Y_MD_heardIn.2.1 35 = .ok (.ireturn, 1) := by decide +kernel
theorem d_MD_heardIn_36 : decode Y_MD_heardIn.2.1 36 = .ok (.aload_n 0, 1) := by decide +kernel
theorem d_MD_heardIn_37 : decode Y_MD_heardIn.2.1 37 = .ok (.getfield 13, 3) := by decide +kernel
theorem d_MD_heardIn_40 : decode Y_MD_heardIn.2.1 40 = .ok (.iconst (0), 1) := by decide +kernel
theorem d_MD_heardIn_41 : decode Y_MD_heardIn.2.1 41 = .ok (.aload_n 0, 1) := by decide +kernel
theorem d_MD_heardIn_42 : decode Y_MD_heardIn.2.1 42 = .ok (.getfield 16, 3) := by decide +kernel
theorem d_MD_heardIn_45 : decode Y_MD_heardIn.2.1 45 = .ok (.iconst (0), 1) := by decide +kernel
theorem d_MD_heardIn_46 : decode Y_MD_heardIn.2.1 46 = .ok (.invokestatic 188, 3) := by decide +kernel
theorem d_MD_heardIn_49 : decode Y_MD_heardIn.2.1 49 = .ok (.bipush (65), 2) := by decide +kernel
theorem d_MD_heardIn_51 : decode Y_MD_heardIn.2.1 51 = .ok (.bipush (6), 2) := by decide +kernel
theorem d_MD_heardIn_53 : decode Y_MD_heardIn.2.1 53 = .ok (.iconst (4), 1) := by decide +kernel
theorem d_MD_heardIn_54 : decode Y_MD_heardIn.2.1 54 = .ok (.iload_n 1, 1) := by decide +kernel
theorem d_MD_heardIn_55 : decode Y_MD_heardIn.2.1 55 = .ok (.imul, 1) := by decide +kernel
theorem d_MD_heardIn_56 : decode Y_MD_heardIn.2.1 56 = .ok (.iload_n 2, 1) := by decide +kernel
theorem d_MD_heardIn_57 : decode Y_MD_heardIn.2.1 57 = .ok (.iadd, 1) := by decide +kernel
theorem d_MD_heardIn_58 : decode Y_MD_heardIn.2.1 58 = .ok (.imul, 1) := by decide +kernel
theorem d_MD_heardIn_59 : decode Y_MD_heardIn.2.1 59 = .ok (.iadd, 1) := by decide +kernel
theorem d_MD_heardIn_60 : decode Y_MD_heardIn.2.1 60 = .ok (.istore_n 3, 1) := by decide +kernel
theorem d_MD_heardIn_61 : decode Y_MD_heardIn.2.1 61 = .ok (.iconst (1), 1) := by decide +kernel
theorem d_MD_heardIn_62 : decode Y_MD_heardIn.2.1 62 = .ok (.istore 4, 2) := by decide +kernel
theorem d_MD_heardIn_64 : decode Y_MD_heardIn.2.1 64 = .ok (.iload 4, 2) := by decide +kernel
theorem d_MD_heardIn_66 : decode Y_MD_heardIn.2.1 66 = .ok (.sipush (200), 3) := by decide +kernel
theorem d_MD_heardIn_69 : decode Y_MD_heardIn.2.1 69 = .ok (.if_icmp .gt (34), 3) := by decide +kernel
theorem d_MD_heardIn_72 : decode Y_MD_heardIn.2.1 72 = .ok (.aload_n 0, 1) := by decide +kernel
theorem d_MD_heardIn_73 : decode Y_MD_heardIn.2.1 73 = .ok (.getfield 16, 3) := by decide +kernel
theorem d_MD_heardIn_76 : decode Y_MD_heardIn.2.1 76 = .ok (.invokestatic 107, 3) := by decide +kernel
theorem d_MD_heardIn_79 : decode Y_MD_heardIn.2.1 79 = .ok (.aload_n 0, 1) := by decide +kernel
theorem d_MD_heardIn_80 : decode Y_MD_heardIn.2.1 80 = .ok (.getfield 16, 3) := by decide +kernel
theorem d_MD_heardIn_83 : decode Y_MD_heardIn.2.1 83 = .ok (.iload_n 3, 1) := by decide +kernel
theorem d_MD_heardIn_84 : decode Y_MD_heardIn.2.1 84 = .ok (.iaload, 1) := by decide +kernel
theorem d_MD_heardIn_85 : decode Y_MD_heardIn.2.1 85 = .ok (.aload_n 0, 1) := by decide +kernel
theorem d_MD_heardIn_86 : decode Y_MD_heardIn.2.1 86 = .ok (.getfield 13, 3) := by decide +kernel
theorem d_MD_heardIn_89 : decode Y_MD_heardIn.2.1 89 = .ok (.iload_n 3, 1) := by decide +kernel
theorem d_MD_heardIn_90 : decode Y_MD_heardIn.2.1 90 = .ok (.iaload, 1) := by decide +kernel
theorem d_MD_heardIn_91 : decode Y_MD_heardIn.2.1 91 = .ok (.if_icmp .le (6), 3) := by decide +kernel
theorem d_MD_heardIn_94 : decode Y_MD_heardIn.2.1 94 = .ok (.iload 4, 2) := by decide +kernel
theorem d_MD_heardIn_96 : decode Y_MD_heardIn.2.1 96 = .ok (.ireturn, 1) := by decide +kernel
theorem d_MD_heardIn_97 : decode Y_MD_heardIn.2.1 97 = .ok (.iinc 4 (1), 3) := by decide +kernel
theorem d_MD_heardIn_100 : decode Y_MD_heardIn.2.1 100 = .ok (.goto (-36), 3) := by decide +kernel
theorem d_MD_heardIn_103 : decode Y_MD_heardIn.2.1 103 = .ok (.iconst (-1), 1) := by decide +kernel
theorem d_MD_heardIn_104 : decode Y_MD_heardIn.2.1 104 = .ok (.ireturn, 1) := by decide +kernel
def f_MD_heardIn (w : zW) (D : zD) (a : Nat) (x1 : Int32) (x2 : Int32) : Option (Int32 × zD) := zjp (fun (s0 : Nat) (s1 : Int32) (D1 : zD) => zobj w 8 s0 (zci (f_MD_refused w D1 s0 s1) (fun v2 D3 => (if v2 = 0 then zjp (zlp (fun (_ : Int32) (_ : Int32) (_ : zD) => none) (fun (j64 : Int32 → Int32 → zD → Option (Int32 × zD)) (x3 : Int32) (x4 : Int32) (D4 : zD) => (if (200 : Int32) < x4 then some ((-1 : Int32), D4) else zref w 8 4 a (fun p5 => zcv (f_MD_tick w D4 p5) (fun D6 => zref w 8 4 a (fun p7 => zald w D6 0 p7 x3 (fun v8 => zref w 8 3 a (fun p9 => zald w D6 0 p9 x3 (fun v10 => (if v8 ≤ v10 then zlet (x4 + (1 : Int32)) (fun v11 => j64 x3 v11 D6) else some (x4, D6)))))))))) zfuel) (fun j64 => zref w 8 3 a (fun p12 => zref w 8 4 a (fun p13 => zcv (f_MD_copyState w D3 p12 (0 : Int32) p13 (0 : Int32)) (fun D14 => zlet ((65 : Int32) + ((6 : Int32) * (((4 : Int32) * x1) + x2))) (fun v15 => j64 v15 (1 : Int32) D14))))) else some ((0 : Int32), D3))))) (fun j28 => zjp (fun (s0 : Nat) (D16 : zD) => j28 s0 (1 : Int32) D16) (fun j27 => zref w 8 3 a (fun p17 => zci (f_MD_isHearer w D p17 x1) (fun v18 D19 => (if v18 = 0 then j27 a D19 else zref w 8 3 a (fun p20 => zci (f_MD_isSiren w D19 p20 x2) (fun v21 D22 => (if v21 = 0 then j27 a D22 else j28 a (0 : Int32) D22))))))))
set_option maxHeartbeats 4000000 in
set_option maxRecDepth 100000 in
theorem c_MD_heardIn (z : zT) (D : zD) (a : Nat) (x1 : Int32) (x2 : Int32) : zM Y_MD_heardIn 5 0 0 (zqI z) (f_MD_heardIn z.2 D a x1 x2) [.ref a, .int x1, .int x2] z D := by
  refine zM_of (plainFor_of_name (by decide +kernel)) rfl (Nat.le_of_ble_eq_true rfl) (fun _ _ _ _ h => nomatch h.1) (fun K => ?_)
  unfold f_MD_heardIn
  refine z_jp (fun j28 : Nat → Int32 → zD → Option (Int32 × zD) => ∀ (s0 : Nat) (s1 : Int32) (D1 : zD), zGO K Y_MD_heardIn 5 0 0 (zqI z) (j28 s0 s1 D1) 0 0 z D1 28 [(0, .ref a), (1, .int x1), (2, .int x2)] [.int s1, .ref s0]) (fun s0 s1 D1 => ?_) (fun j28 h28 => ?_)
  · refine z_callVi (pc := 28) [.int s1] lkV_MD_127 rfl (c_MD_refused z D1 s0 s1) (by decide) rfl rfl (Nat.le_of_ble_eq_true rfl) d_MD_heardIn_28 (fun v2 D3 => ?_)
    refine z_if_eq (pc := 31) (tgt := 36) d_MD_heardIn_31 (by decide) ?_ ?_
    · refine z_jp (fun j64 : Int32 → Int32 → zD → Option (Int32 × zD) => ∀ (x3 : Int32) (x4 : Int32) (D4 : zD), zGO K Y_MD_heardIn 5 0 0 (zqI z) (j64 x3 x4 D4) 0 0 z D4 64 [(0, .ref a), (3, .int x3), (4, .int x4)] []) (z_lp (fun j64 : Int32 → Int32 → zD → Option (Int32 × zD) => ∀ (x3 : Int32) (x4 : Int32) (D4 : zD), zGO K Y_MD_heardIn 5 0 0 (zqI z) (j64 x3 x4 D4) 0 0 z D4 64 [(0, .ref a), (3, .int x3), (4, .int x4)] []) (fun _ _ _ => z_none) (fun j64 h64 x3 x4 D4 => ?_) zfuel) (fun j64 h64 => ?_)
      · refine z_iload (pc := 64) d_MD_heardIn_64 2 rfl ?_
        refine z_sipush (pc := 66) d_MD_heardIn_66 ks_200 ?_
        refine z_icmp_gt (pc := 69) (tgt := 103) d_MD_heardIn_69 (by decide) ?_ ?_
        · refine z_iconst (pc := 103) d_MD_heardIn_103 ki_m1 ?_
          exact z_iret (pc := 104) d_MD_heardIn_104 rfl
        · refine z_aload_n (pc := 72) d_MD_heardIn_72 rfl 0 rfl ?_
          refine z_getR (pc := 73) fl_MD_16 d_MD_heardIn_73 (fun p5 => ?_)
          refine z_callSv (pc := 76) [.ref p5] lkS_MD_107 (c_MD_tick z D4 p5) (by decide) rfl rfl (Nat.le_of_ble_eq_true rfl) d_MD_heardIn_76 (fun D6 => ?_)
          refine z_aload_n (pc := 79) d_MD_heardIn_79 rfl 0 rfl ?_
          refine z_getR (pc := 80) fl_MD_16 d_MD_heardIn_80 (fun p7 => ?_)
          refine z_iload_n (pc := 83) d_MD_heardIn_83 rfl 1 rfl ?_
          refine z_iaload (pc := 84) d_MD_heardIn_84 (fun v8 => ?_)
          refine z_aload_n (pc := 85) d_MD_heardIn_85 rfl 0 rfl ?_
          refine z_getR (pc := 86) fl_MD_13 d_MD_heardIn_86 (fun p9 => ?_)
          refine z_iload_n (pc := 89) d_MD_heardIn_89 rfl 1 rfl ?_
          refine z_iaload (pc := 90) d_MD_heardIn_90 (fun v10 => ?_)
          refine z_icmp_le (pc := 91) (tgt := 97) d_MD_heardIn_91 (by decide) ?_ ?_
          · refine z_iincL (pc := 97) d_MD_heardIn_97 ki_1 2 rfl (by decide) (fun v11 => z_lvc (lv2 := [(4, .int v11), (0, .ref a), (3, .int x3)]) rfl ?_)
            refine z_goto (pc := 100) (tgt := 64) d_MD_heardIn_100 (by decide) ?_
            exact z_sub [1, 2, 0] rfl (h64 x3 v11 D6)
          · refine z_iload (pc := 94) d_MD_heardIn_94 2 rfl ?_
            exact z_iret (pc := 96) d_MD_heardIn_96 rfl
      · refine z_aload_n (pc := 36) d_MD_heardIn_36 rfl 0 rfl ?_
        refine z_getR (pc := 37) fl_MD_13 d_MD_heardIn_37 (fun p12 => ?_)
        refine z_iconst (pc := 40) d_MD_heardIn_40 ki_0 ?_
        refine z_aload_n (pc := 41) d_MD_heardIn_41 rfl 0 rfl ?_
        refine z_getR (pc := 42) fl_MD_16 d_MD_heardIn_42 (fun p13 => ?_)
        refine z_iconst (pc := 45) d_MD_heardIn_45 ki_0 ?_
        refine z_callSv (pc := 46) [.ref p12, .int (0 : Int32), .ref p13, .int (0 : Int32)] lkS_MD_188 (c_MD_copyState z D3 p12 (0 : Int32) p13 (0 : Int32)) (by decide) rfl rfl (Nat.le_of_ble_eq_true rfl) d_MD_heardIn_46 (fun D14 => ?_)
        refine z_bipush (pc := 49) d_MD_heardIn_49 kb_65 ?_
        refine z_bipush (pc := 51) d_MD_heardIn_51 kb_6 ?_
        refine z_iconst (pc := 53) d_MD_heardIn_53 ki_4 ?_
        refine z_iload_n (pc := 54) d_MD_heardIn_54 rfl 1 rfl ?_
        refine z_imul (pc := 55) d_MD_heardIn_55 ?_
        refine z_iload_n (pc := 56) d_MD_heardIn_56 rfl 2 rfl ?_
        refine z_iadd (pc := 57) d_MD_heardIn_57 ?_
        refine z_imul (pc := 58) d_MD_heardIn_58 ?_
        refine z_iadd (pc := 59) d_MD_heardIn_59 ?_
        refine z_leti (fun v15 => ?_)
        refine z_istore_n (pc := 60) d_MD_heardIn_60 rfl (by decide) (lv' := [(3, .int v15), (0, .ref a), (1, .int x1), (2, .int x2)]) rfl ?_
        refine z_iconst (pc := 61) d_MD_heardIn_61 ki_1 ?_
        refine z_istore (pc := 62) d_MD_heardIn_62 (by decide) (lv' := [(4, .int (1 : Int32)), (3, .int v15), (0, .ref a), (1, .int x1), (2, .int x2)]) rfl ?_
        exact z_sub [2, 1, 0] rfl (h64 v15 (1 : Int32) D14)
    · refine z_iconst (pc := 34) d_MD_heardIn_34 ki_0 ?_
      exact z_iret (pc := 35) d_MD_heardIn_35 rfl
  · refine z_jp (fun j27 : Nat → zD → Option (Int32 × zD) => ∀ (s0 : Nat) (D16 : zD), zGO K Y_MD_heardIn 5 0 0 (zqI z) (j27 s0 D16) 0 0 z D16 27 [(0, .ref a), (1, .int x1), (2, .int x2)] [.ref s0]) (fun s0 D16 => ?_) (fun j27 h27 => ?_)
    · refine z_iconst (pc := 27) d_MD_heardIn_27 ki_1 ?_
      exact z_sub [0, 1, 2] rfl (h28 s0 (1 : Int32) D16)
    · refine z_aload_n (pc := 0) d_MD_heardIn_0 rfl 0 rfl ?_
      refine z_aload_n (pc := 1) d_MD_heardIn_1 rfl 0 rfl ?_
      refine z_getR (pc := 2) fl_MD_13 d_MD_heardIn_2 (fun p17 => ?_)
      refine z_iload_n (pc := 5) d_MD_heardIn_5 rfl 1 rfl ?_
      refine z_callSi (pc := 6) [.ref p17, .int x1] lkS_MD_195 (c_MD_isHearer z D p17 x1) (by decide) rfl rfl (Nat.le_of_ble_eq_true rfl) d_MD_heardIn_6 (fun v18 D19 => ?_)
      refine z_if_eq (pc := 9) (tgt := 27) d_MD_heardIn_9 (by decide) ?_ ?_
      · exact z_sub [0, 1, 2] rfl (h27 a D19)
      · refine z_aload_n (pc := 12) d_MD_heardIn_12 rfl 0 rfl ?_
        refine z_getR (pc := 13) fl_MD_13 d_MD_heardIn_13 (fun p20 => ?_)
        refine z_iload_n (pc := 16) d_MD_heardIn_16 rfl 2 rfl ?_
        refine z_callSi (pc := 17) [.ref p20, .int x2] lkS_MD_168 (c_MD_isSiren z D19 p20 x2) (by decide) rfl rfl (Nat.le_of_ble_eq_true rfl) d_MD_heardIn_17 (fun v21 D22 => ?_)
        refine z_if_eq (pc := 20) (tgt := 27) d_MD_heardIn_20 (by decide) ?_ ?_
        · exact z_sub [0, 1, 2] rfl (h27 a D22)
        · refine z_iconst (pc := 23) d_MD_heardIn_23 ki_0 ?_
          refine z_goto (pc := 24) (tgt := 28) d_MD_heardIn_24 (by decide) ?_
          exact z_sub [0, 1, 2] rfl (h28 a (0 : Int32) D22)
theorem d_MD_quietIn_0 : decode Y_MD_quietIn.2.1 0 = .ok (.aload_n 0, 1) := by decide +kernel
theorem d_MD_quietIn_1 : decode Y_MD_quietIn.2.1 1 = .ok (.iconst (0), 1) := by decide +kernel
theorem d_MD_quietIn_2 : decode Y_MD_quietIn.2.1 2 = .ok (.putfield 33, 3) := by decide +kernel
theorem d_MD_quietIn_5 : decode Y_MD_quietIn.2.1 5 = .ok (.aload_n 0, 1) := by decide +kernel
theorem d_MD_quietIn_6 : decode Y_MD_quietIn.2.1 6 = .ok (.getfield 13, 3) := by decide +kernel
theorem d_MD_quietIn_9 : decode Y_MD_quietIn.2.1 9 = .ok (.iconst (0), 1) := by decide +kernel
theorem d_MD_quietIn_10 : decode Y_MD_quietIn.2.1 10 = .ok (.aload_n 0, 1) := by decide +kernel
theorem d_MD_quietIn_11 : decode Y_MD_quietIn.2.1 11 = .ok (.getfield 16, 3) := by decide +kernel
theorem d_MD_quietIn_14 : decode Y_MD_quietIn.2.1 14 = .ok (.iconst (0), 1) := by decide +kernel
theorem d_MD_quietIn_15 : decode Y_MD_quietIn.2.1 15 = .ok (.invokestatic 188, 3) := by decide +kernel
theorem d_MD_quietIn_18 : decode Y_MD_quietIn.2.1 18 = .ok (.iconst (0), 1) := by decide +kernel
theorem d_MD_quietIn_19 : decode Y_MD_quietIn.2.1 19 = .ok (.istore_n 1, 1) := by decide +kernel
theorem d_MD_quietIn_20 : decode Y_MD_quietIn.2.1 20 = .ok (.iload_n 1, 1) := by decide +kernel
theorem d_MD_quietIn_21 : decode Y_MD_quietIn.2.1 21 = .ok (.aload_n 0, 1) := by decide +kernel
theorem d_MD_quietIn_22 : decode Y_MD_quietIn.2.1 22 = .ok (.getfield 16, 3) := by decide +kernel
theorem d_MD_quietIn_25 : decode Y_MD_quietIn.2.1 25 = .ok (.iconst (0), 1) := by decide +kernel
theorem d_MD_quietIn_26 : decode Y_MD_quietIn.2.1 26 = .ok (.iaload, 1) := by decide +kernel
theorem d_MD_quietIn_27 : decode Y_MD_quietIn.2.1 27 = .ok (.if_icmp .ge (19), 3) := by decide +kernel
theorem d_MD_quietIn_30 : decode Y_MD_quietIn.2.1 30 = .ok (.aload_n 0, 1) := by decide +kernel
theorem d_MD_quietIn_31 : decode Y_MD_quietIn.2.1 31 = .ok (.getfield 16, 3) := by decide +kernel
theorem d_MD_quietIn_34 : decode Y_MD_quietIn.2.1 34 = .ok (.iload_n 1, 1) := by decide +kernel
theorem d_MD_quietIn_35 : decode Y_MD_quietIn.2.1 35 = .ok (.iconst (0), 1) := by decide +kernel
theorem d_MD_quietIn_36 : decode Y_MD_quietIn.2.1 36 = .ok (.invokestatic 171, 3) := by decide +kernel
theorem d_MD_quietIn_39 : decode Y_MD_quietIn.2.1 39 = .ok (.pop, 1) := by decide +kernel
theorem d_MD_quietIn_40 : decode Y_MD_quietIn.2.1 40 = .ok (.iinc 1 (1), 3) := by decide +kernel
theorem d_MD_quietIn_43 : decode Y_MD_quietIn.2.1 43 = .ok (.goto (-23), 3) := by decide +kernel
theorem d_MD_quietIn_46 : decode Y_MD_quietIn.2.1 46 = .ok (.iconst (0), 1) := by decide +kernel
theorem d_MD_quietIn_47 : decode Y_MD_quietIn.2.1 47 = .ok (.istore_n 1, 1) := by decide +kernel
theorem d_MD_quietIn_48 : decode Y_MD_quietIn.2.1 48 = .ok (.aload_n 0, 1) := by decide +kernel
theorem d_MD_quietIn_49 : decode Y_MD_quietIn.2.1 49 = .ok (.getfield 16, 3) := by decide +kernel
theorem d_MD_quietIn_52 : decode Y_MD_quietIn.2.1 52 = .ok (.iconst (4), 1) := by decide +kernel
theorem d_MD_quietIn_53 : decode Y_MD_quietIn.2.1 53 = .ok (.iaload, 1) := by decide +kernel
theorem d_MD_quietIn_54 : decode Y_MD_quietIn.2.1 54 = .ok (.ifCond .le (16), 3) := by decide +kernel
theorem d_MD_quietIn_57 : decode Y_MD_quietIn.2.1 57 = .ok (.aload_n 0, 1) := by decide +kernel
theorem d_MD_quietIn_58 : decode Y_MD_quietIn.2.1 58 = .ok (.getfield 16, 3) := by decide +kernel
theorem d_MD_quietIn_61 : decode Y_MD_quietIn.2.1 61 = .ok (.invokestatic 107, 3) := by decide +kernel
theorem d_MD_quietIn_64 : decode Y_MD_quietIn.2.1 64 = .ok (.iinc 1 (1), 3) := by decide +kernel
theorem d_MD_quietIn_67 : decode Y_MD_quietIn.2.1 67 = .ok (.goto (-19), 3) := by decide +kernel
theorem d_MD_quietIn_70 : decode Y_MD_quietIn.2.1 70 = .ok (.iload_n 1, 1) := by decide +kernel
theorem d_MD_quietIn_71 : decode Y_MD_quietIn.2.1 71 = .ok (.ireturn, 1) := by decide +kernel
def f_MD_quietIn (w : zW) (D : zD) (a : Nat) : Option (Int32 × zD) := zjp (zlp (fun (_ : Int32) (_ : zD) => none) (fun (j20 : Int32 → zD → Option (Int32 × zD)) (x1 : Int32) (D1 : zD) => zref w 8 4 a (fun p2 => zald w D1 0 p2 (0 : Int32) (fun v3 => (if v3 ≤ x1 then zjp (zlp (fun (_ : Int32) (_ : zD) => none) (fun (j48 : Int32 → zD → Option (Int32 × zD)) (x1 : Int32) (D4 : zD) => zref w 8 4 a (fun p5 => zald w D4 0 p5 (4 : Int32) (fun v6 => (if v6 ≤ 0 then some (x1, D4) else zref w 8 4 a (fun p7 => zcv (f_MD_tick w D4 p7) (fun D8 => zlet (x1 + (1 : Int32)) (fun v9 => j48 v9 D8))))))) zfuel) (fun j48 => j48 (0 : Int32) D1) else zref w 8 4 a (fun p10 => zci (f_MD_turnOn w D1 p10 x1 (0 : Int32)) (fun v11 D12 => zlet (x1 + (1 : Int32)) (fun v13 => j20 v13 D12))))))) zfuel) (fun j20 => zput w D 8 0 a (0 : Int32) (fun D14 => zref w 8 3 a (fun p15 => zref w 8 4 a (fun p16 => zcv (f_MD_copyState w D14 p15 (0 : Int32) p16 (0 : Int32)) (fun D17 => j20 (0 : Int32) D17)))))
set_option maxHeartbeats 4000000 in
set_option maxRecDepth 100000 in
theorem c_MD_quietIn (z : zT) (D : zD) (a : Nat) : zM Y_MD_quietIn 5 0 0 (zqI z) (f_MD_quietIn z.2 D a) [.ref a] z D := by
  refine zM_of (plainFor_of_name (by decide +kernel)) rfl (Nat.le_of_ble_eq_true rfl) (fun _ _ _ _ h => nomatch h.1) (fun K => ?_)
  unfold f_MD_quietIn
  refine z_jp (fun j20 : Int32 → zD → Option (Int32 × zD) => ∀ (x1 : Int32) (D1 : zD), zGO K Y_MD_quietIn 5 0 0 (zqI z) (j20 x1 D1) 0 0 z D1 20 [(0, .ref a), (1, .int x1)] []) (z_lp (fun j20 : Int32 → zD → Option (Int32 × zD) => ∀ (x1 : Int32) (D1 : zD), zGO K Y_MD_quietIn 5 0 0 (zqI z) (j20 x1 D1) 0 0 z D1 20 [(0, .ref a), (1, .int x1)] []) (fun _ _ => z_none) (fun j20 h20 x1 D1 => ?_) zfuel) (fun j20 h20 => ?_)
  · refine z_iload_n (pc := 20) d_MD_quietIn_20 rfl 1 rfl ?_
    refine z_aload_n (pc := 21) d_MD_quietIn_21 rfl 0 rfl ?_
    refine z_getR (pc := 22) fl_MD_16 d_MD_quietIn_22 (fun p2 => ?_)
    refine z_iconst (pc := 25) d_MD_quietIn_25 ki_0 ?_
    refine z_iaload (pc := 26) d_MD_quietIn_26 (fun v3 => ?_)
    refine z_icmp_ge (pc := 27) (tgt := 46) d_MD_quietIn_27 (by decide) ?_ ?_
    · refine z_jp (fun j48 : Int32 → zD → Option (Int32 × zD) => ∀ (x1 : Int32) (D4 : zD), zGO K Y_MD_quietIn 5 0 0 (zqI z) (j48 x1 D4) 0 0 z D4 48 [(0, .ref a), (1, .int x1)] []) (z_lp (fun j48 : Int32 → zD → Option (Int32 × zD) => ∀ (x1 : Int32) (D4 : zD), zGO K Y_MD_quietIn 5 0 0 (zqI z) (j48 x1 D4) 0 0 z D4 48 [(0, .ref a), (1, .int x1)] []) (fun _ _ => z_none) (fun j48 h48 x1 D4 => ?_) zfuel) (fun j48 h48 => ?_)
      · refine z_aload_n (pc := 48) d_MD_quietIn_48 rfl 0 rfl ?_
        refine z_getR (pc := 49) fl_MD_16 d_MD_quietIn_49 (fun p5 => ?_)
        refine z_iconst (pc := 52) d_MD_quietIn_52 ki_4 ?_
        refine z_iaload (pc := 53) d_MD_quietIn_53 (fun v6 => ?_)
        refine z_if_le (pc := 54) (tgt := 70) d_MD_quietIn_54 (by decide) ?_ ?_
        · refine z_iload_n (pc := 70) d_MD_quietIn_70 rfl 1 rfl ?_
          exact z_iret (pc := 71) d_MD_quietIn_71 rfl
        · refine z_aload_n (pc := 57) d_MD_quietIn_57 rfl 0 rfl ?_
          refine z_getR (pc := 58) fl_MD_16 d_MD_quietIn_58 (fun p7 => ?_)
          refine z_callSv (pc := 61) [.ref p7] lkS_MD_107 (c_MD_tick z D4 p7) (by decide) rfl rfl (Nat.le_of_ble_eq_true rfl) d_MD_quietIn_61 (fun D8 => ?_)
          refine z_iincL (pc := 64) d_MD_quietIn_64 ki_1 1 rfl (by decide) (fun v9 => z_lvc (lv2 := [(1, .int v9), (0, .ref a)]) rfl ?_)
          refine z_goto (pc := 67) (tgt := 48) d_MD_quietIn_67 (by decide) ?_
          exact z_sub [1, 0] rfl (h48 v9 D8)
      · refine z_iconst (pc := 46) d_MD_quietIn_46 ki_0 ?_
        refine z_istore_n (pc := 47) d_MD_quietIn_47 rfl (by decide) (lv' := [(1, .int (0 : Int32)), (0, .ref a)]) rfl ?_
        exact z_sub [1, 0] rfl (h48 (0 : Int32) D1)
    · refine z_aload_n (pc := 30) d_MD_quietIn_30 rfl 0 rfl ?_
      refine z_getR (pc := 31) fl_MD_16 d_MD_quietIn_31 (fun p10 => ?_)
      refine z_iload_n (pc := 34) d_MD_quietIn_34 rfl 1 rfl ?_
      refine z_iconst (pc := 35) d_MD_quietIn_35 ki_0 ?_
      refine z_callSi (pc := 36) [.ref p10, .int x1, .int (0 : Int32)] lkS_MD_171 (c_MD_turnOn z D1 p10 x1 (0 : Int32)) (by decide) rfl rfl (Nat.le_of_ble_eq_true rfl) d_MD_quietIn_36 (fun v11 D12 => ?_)
      refine z_pop (pc := 39) d_MD_quietIn_39 rfl ?_
      refine z_iincL (pc := 40) d_MD_quietIn_40 ki_1 1 rfl (by decide) (fun v13 => z_lvc (lv2 := [(1, .int v13), (0, .ref a)]) rfl ?_)
      refine z_goto (pc := 43) (tgt := 20) d_MD_quietIn_43 (by decide) ?_
      exact z_sub [1, 0] rfl (h20 v13 D12)
  · refine z_aload_n (pc := 0) d_MD_quietIn_0 rfl 0 rfl ?_
    refine z_iconst (pc := 1) d_MD_quietIn_1 ki_0 ?_
    refine z_putI (pc := 2) fl_MD_33 d_MD_quietIn_2 (fun D14 => ?_)
    refine z_aload_n (pc := 5) d_MD_quietIn_5 rfl 0 rfl ?_
    refine z_getR (pc := 6) fl_MD_13 d_MD_quietIn_6 (fun p15 => ?_)
    refine z_iconst (pc := 9) d_MD_quietIn_9 ki_0 ?_
    refine z_aload_n (pc := 10) d_MD_quietIn_10 rfl 0 rfl ?_
    refine z_getR (pc := 11) fl_MD_16 d_MD_quietIn_11 (fun p16 => ?_)
    refine z_iconst (pc := 14) d_MD_quietIn_14 ki_0 ?_
    refine z_callSv (pc := 15) [.ref p15, .int (0 : Int32), .ref p16, .int (0 : Int32)] lkS_MD_188 (c_MD_copyState z D14 p15 (0 : Int32) p16 (0 : Int32)) (by decide) rfl rfl (Nat.le_of_ble_eq_true rfl) d_MD_quietIn_15 (fun D17 => ?_)
    refine z_iconst (pc := 18) d_MD_quietIn_18 ki_0 ?_
    refine z_istore_n (pc := 19) d_MD_quietIn_19 rfl (by decide) (lv' := [(1, .int (0 : Int32)), (0, .ref a)]) rfl ?_
    exact z_sub [1, 0] rfl (h20 (0 : Int32) D17)
theorem d_MD_readCommand_0 : decode Y_MD_readCommand.2.1 0 = .ok (.aload_n 0, 1) := by decide +kernel
theorem d_MD_readCommand_1 : decode Y_MD_readCommand.2.1 1 = .ok (.getfield 7, 3) := by decide +kernel
theorem d_MD_readCommand_4 : decode Y_MD_readCommand.2.1 4 = .ok (.aload_n 0, 1) := by decide +kernel
theorem d_MD_readCommand_5 : decode Y_MD_readCommand.2.1 5 = .ok (.getfield 131, 3) := by decide +kernel
theorem d_MD_readCommand_8 : decode Y_MD_readCommand.2.1 8 = .ok (.iaload, 1) := by decide +kernel
theorem d_MD_readCommand_9 : decode Y_MD_readCommand.2.1 9 = .ok (.istore_n 2, 1) := by decide +kernel
theorem d_MD_readCommand_10 : decode Y_MD_readCommand.2.1 10 = .ok (.aload_n 0, 1) := by decide +kernel
theorem d_MD_readCommand_11 : decode Y_MD_readCommand.2.1 11 = .ok (.dup, 1) := by decide +kernel
theorem d_MD_readCommand_12 : decode Y_MD_readCommand.2.1 12 = .ok (.getfield 131, 3) := by decide +kernel
theorem d_MD_readCommand_15 : decode Y_MD_readCommand.2.1 15 = .ok (.iconst (1), 1) := by decide +kernel
theorem d_MD_readCommand_16 : decode Y_MD_readCommand.2.1 16 = .ok (.iadd, 1) := by decide +kernel
theorem d_MD_readCommand_17 : decode Y_MD_readCommand.2.1 17 = .ok (.putfield 131, 3) := by decide +kernel
theorem d_MD_readCommand_20 : decode Y_MD_readCommand.2.1 20 = .ok (.iload_n 2, 1) := by decide +kernel
theorem d_MD_readCommand_21 : decode Y_MD_readCommand.2.1 21 = .ok (.lookupswitch (299) #[(99, (216)), (104, (65)), (111, (145)), (115, (59)), (116, (258)), (119, (71))], 59) := by decide +kernel
theorem d_MD_readCommand_80 : decode Y_MD_readCommand.2.1 80 = .ok (.aload_n 0, 1) := by decide +kernel
theorem d_MD_readCommand_81 : decode Y_MD_readCommand.2.1 81 = .ok (.aload_n 1, 1) := by decide +kernel
theorem d_MD_readCommand_82 : decode Y_MD_readCommand.2.1 82 = .ok (.invokevirtual 153, 3) := by decide +kernel
theorem d_MD_readCommand_85 : decode Y_MD_readCommand.2.1 85 = .ok (.ireturn, 1) := by decide +kernel
theorem d_MD_readCommand_86 : decode Y_MD_readCommand.2.1 86 = .ok (.aload_n 0, 1) := by decide +kernel
theorem d_MD_readCommand_87 : decode Y_MD_readCommand.2.1 87 = .ok (.aload_n 1, 1) := by decide +kernel
theorem d_MD_readCommand_88 : decode Y_MD_readCommand.2.1 88 = .ok (.invokevirtual 157, 3) := by decide +kernel
theorem d_MD_readCommand_91 : decode Y_MD_readCommand.2.1 91 = .ok (.ireturn, 1) := by decide +kernel
theorem d_MD_readCommand_92 : decode Y_MD_readCommand.2.1 92 = .ok (.aload_n 0, 1) := by decide +kernel
theorem d_MD_readCommand_93 : decode Y_MD_readCommand.2.1 93 = .ok (.iconst (0), 1) := by decide +kernel
theorem d_MD_readCommand_94 : decode Y_MD_readCommand.2.1 94 = .ok (.bipush (117), 2) := by decide +kernel
theorem d_MD_readCommand_96 : decode Y_MD_readCommand.2.1 96 = .ok (.bipush (108), 2) := by decide +kernel
theorem d_MD_readCommand_98 : decode Y_MD_readCommand.2.1 98 = .ok (.invokevirtual 160, 3) := by decide +kernel
theorem d_MD_readCommand_101 : decode Y_MD_readCommand.2.1 101 = .ok (.istore_n 3, 1) := by decide +kernel
theorem d_MD_readCommand_102 : decode Y_MD_readCommand.2.1 102 = .ok (.aload_n 0, 1) := by decide +kernel
theorem d_MD_readCommand_103 : decode Y_MD_readCommand.2.1 103 = .ok (.iload_n 3, 1) := by decide +kernel
theorem d_MD_readCommand_104 : decode Y_MD_readCommand.2.1 104 = .ok (.iconst (2), 1) := by decide +kernel
theorem d_MD_readCommand_105 : decode Y_MD_readCommand.2.1 105 = .ok (.iconst (0), 1) := by decide +kernel
theorem d_MD_readCommand_106 : decode Y_MD_readCommand.2.1 106 = .ok (.bipush (80), 2) := by decide +kernel
theorem d_MD_readCommand_108 : decode Y_MD_readCommand.2.1 108 = .ok (.invokevirtual 137, 3) := by decide +kernel
theorem d_MD_readCommand_111 : decode Y_MD_readCommand.2.1 111 = .ok (.istore 4, 2) := by decide +kernel
theorem d_MD_readCommand_113 : decode Y_MD_readCommand.2.1 113 = .ok (.iload 4, 2) := by decide +kernel
theorem d_MD_readCommand_115 : decode Y_MD_readCommand.2.1 115 = .ok (.iconst (-1), 1) := by decide +kernel
theorem d_MD_readCommand_116 : decode Y_MD_readCommand.2.1 116 = .ok (.if_icmp .eq (48), 3) := by decide +kernel
theorem d_MD_readCommand_119 : decode Y_MD_readCommand.2.1 119 = .ok (.aload_n 0, 1) := by decide +kernel
theorem d_MD_readCommand_120 : decode Y_MD_readCommand.2.1 120 = .ok (.aload_n 1, 1) := by decide +kernel
theorem d_MD_readCommand_121 : decode Y_MD_readCommand.2.1 121 = .ok (.iconst (2), 1) := by decide +kernel
theorem d_MD_readCommand_122 : decode Y_MD_readCommand.2.1 122 = .ok (.iaload, 1) := by decide +kernel
theorem d_MD_readCommand_123 : decode Y_MD_readCommand.2.1 123 = .ok (.iconst (3), 1) := by decide +kernel
theorem d_MD_readCommand_124 : decode Y_MD_readCommand.2.1 124 = .ok (.if_icmp .ge (29), 3) := by decide +kernel
theorem d_MD_readCommand_127 : decode Y_MD_readCommand.2.1 127 = .ok (.aload_n 1, 1) := by decide +kernel
theorem d_MD_readCommand_128 : decode Y_MD_readCommand.2.1 128 = .ok (.iload_n 3, 1) := by decide +kernel
theorem d_MD_readCommand_129 : decode Y_MD_readCommand.2.1 129 = .ok (.iconst (1), 1) := by decide +kernel
theorem d_MD_readCommand_130 : decode Y_MD_readCommand.2.1 130 = .ok (.if_icmp .ne (7), 3) := by decide +kernel
theorem d_MD_readCommand_133 : decode Y_MD_readCommand.2.1 133 = .ok (.iconst (1), 1) := by decide +kernel
theorem d_MD_readCommand_134 : decode Y_MD_readCommand.2.1 134 = .ok (.goto (4), 3) := by decide +kernel
theorem d_MD_readCommand_137 : decode Y_MD_readCommand.2.1 137 = .ok (.iconst (0), 1) := by decide +kernel
theorem d_MD_readCommand_138 : decode Y_MD_readCommand.2.1 138 = .ok (.iload 4, 2) := by decide +kernel
theorem d_MD_readCommand_140 : decode Y_MD_readCommand.2.1 140 = .ok (.bipush (40), 2) := by decide +kernel
theorem d_MD_readCommand_142 : decode Y_MD_readCommand.2.1 142 = .ok (.isub, 1) := by decide +kernel
theorem d_MD_readCommand_143 : decode Y_MD_readCommand.2.1 143 = .ok (.invokestatic 164, 3) := by decide +kernel
theorem d_MD_readCommand_146 : decode Y_MD_readCommand.2.1 146 = .ok (.ifCond .lt (7), 3) := by decide +kernel
theorem d_MD_readCommand_149 : decode Y_MD_readCommand.2.1 149 = .ok (.iconst (1), 1) := by decide +kernel
theorem d_MD_readCommand_150 : decode Y_MD_readCommand.2.1 150 = .ok (.goto (4), 3) := by decide +kernel
theorem d_MD_readCommand_153 : decode Y_MD_readCommand.2.1 153 = .ok (.iconst (0), 1) := by decide +kernel
theorem d_MD_readCommand_154 : decode Y_MD_readCommand.2.1 154 = .ok (.invokevirtual 145, 3) := by decide +kernel
theorem d_MD_readCommand_157 : decode Y_MD_readCommand.2.1 157 = .ok (.ifCond .eq (7), 3) := by decide +kernel
theorem d_MD_readCommand_160 : decode Y_MD_readCommand.2.1 160 = .ok (.iconst (1), 1) := by decide +kernel
theorem d_MD_readCommand_161 : decode Y_MD_readCommand.2.1 161 = .ok (.goto (4), 3) := by decide +kernel
theorem d_MD_readCommand_164 : decode Y_MD_readCommand.2.1 164 = .ok (.iconst (0), 1) := by decide +kernel
theorem d_MD_readCommand_165 : decode Y_MD_readCommand.2.1 165 = .ok (.ireturn, 1) := by decide +kernel
theorem d_MD_readCommand_166 : decode Y_MD_readCommand.2.1 166 = .ok (.aload_n 0, 1) := by decide +kernel
theorem d_MD_readCommand_167 : decode Y_MD_readCommand.2.1 167 = .ok (.iconst (0), 1) := by decide +kernel
theorem d_MD_readCommand_168 : decode Y_MD_readCommand.2.1 168 = .ok (.iconst (1), 1) := by decide +kernel
theorem d_MD_readCommand_169 : decode Y_MD_readCommand.2.1 169 = .ok (.iconst (0), 1) := by decide +kernel
theorem d_MD_readCommand_170 : decode Y_MD_readCommand.2.1 170 = .ok (.iconst (3), 1) := by decide +kernel
theorem d_MD_readCommand_171 : decode Y_MD_readCommand.2.1 171 = .ok (.invokevirtual 137, 3) := by decide +kernel
theorem d_MD_readCommand_174 : decode Y_MD_readCommand.2.1 174 = .ok (.istore_n 3, 1) := by decide +kernel
theorem d_MD_readCommand_175 : decode Y_MD_readCommand.2.1 175 = .ok (.aload_n 0, 1) := by decide +kernel
theorem d_MD_readCommand_176 : decode Y_MD_readCommand.2.1 176 = .ok (.iload_n 3, 1) := by decide +kernel
theorem d_MD_readCommand_177 : decode Y_MD_readCommand.2.1 177 = .ok (.bipush (43), 2) := by decide +kernel
theorem d_MD_readCommand_179 : decode Y_MD_readCommand.2.1 179 = .ok (.bipush (45), 2) := by decide +kernel
theorem d_MD_readCommand_181 : decode Y_MD_readCommand.2.1 181 = .ok (.invokevirtual 160, 3) := by decide +kernel
theorem d_MD_readCommand_184 : decode Y_MD_readCommand.2.1 184 = .ok (.istore 4, 2) := by decide +kernel
theorem d_MD_readCommand_186 : decode Y_MD_readCommand.2.1 186 = .ok (.iload 4, 2) := by decide +kernel
theorem d_MD_readCommand_188 : decode Y_MD_readCommand.2.1 188 = .ok (.iconst (-1), 1) := by decide +kernel
theorem d_MD_readCommand_189 : decode Y_MD_readCommand.2.1 189 = .ok (.if_icmp .eq (46), 3) := by decide +kernel
theorem d_MD_readCommand_192 : decode Y_MD_readCommand.2.1 192 = .ok (.aload_n 0, 1) := by decide +kernel
theorem d_MD_readCommand_193 : decode Y_MD_readCommand.2.1 193 = .ok (.aload_n 1, 1) := by decide +kernel
theorem d_MD_readCommand_194 : decode Y_MD_readCommand.2.1 194 = .ok (.iload_n 3, 1) := by decide +kernel
theorem d_MD_readCommand_195 : decode Y_MD_readCommand.2.1 195 = .ok (.invokestatic 168, 3) := by decide +kernel
theorem d_MD_readCommand_198 : decode Y_MD_readCommand.2.1 198 = .ok (.ifCond .eq (26), 3) := by decide +kernel
theorem d_MD_readCommand_201 : decode Y_MD_readCommand.2.1 201 = .ok (.aload_n 1, 1) := by decide +kernel
theorem d_MD_readCommand_202 : decode Y_MD_readCommand.2.1 202 = .ok (.iload_n 3, 1) := by decide +kernel
theorem d_MD_readCommand_203 : decode Y_MD_readCommand.2.1 203 = .ok (.iload 4, 2) := by decide +kernel
theorem d_MD_readCommand_205 : decode Y_MD_readCommand.2.1 205 = .ok (.iconst (1), 1) := by decide +kernel
theorem d_MD_readCommand_206 : decode Y_MD_readCommand.2.1 206 = .ok (.if_icmp .ne (7), 3) := by decide +kernel
theorem d_MD_readCommand_209 : decode Y_MD_readCommand.2.1 209 = .ok (.iconst (1), 1) := by decide +kernel
theorem d_MD_readCommand_210 : decode Y_MD_readCommand.2.1 210 = .ok (.goto (4), 3) := by decide +kernel
theorem d_MD_readCommand_213 : decode Y_MD_readCommand.2.1 213 = .ok (.iconst (0), 1) := by decide +kernel
theorem d_MD_readCommand_214 : decode Y_MD_readCommand.2.1 214 = .ok (.invokestatic 171, 3) := by decide +kernel
theorem d_MD_readCommand_217 : decode Y_MD_readCommand.2.1 217 = .ok (.ifCond .lt (7), 3) := by decide +kernel
theorem d_MD_readCommand_220 : decode Y_MD_readCommand.2.1 220 = .ok (.iconst (1), 1) := by decide +kernel
theorem d_MD_readCommand_221 : decode Y_MD_readCommand.2.1 221 = .ok (.goto (4), 3) := by decide +kernel
theorem d_MD_readCommand_224 : decode Y_MD_readCommand.2.1 224 = .ok (.iconst (0), 1) := by decide +kernel
theorem d_MD_readCommand_225 : decode Y_MD_readCommand.2.1 225 = .ok (.invokevirtual 145, 3) := by decide +kernel
theorem d_MD_readCommand_228 : decode Y_MD_readCommand.2.1 228 = .ok (.ifCond .eq (7), 3) := by decide +kernel
theorem d_MD_readCommand_231 : decode Y_MD_readCommand.2.1 231 = .ok (.iconst (1), 1) := by decide +kernel
theorem d_MD_readCommand_232 : decode Y_MD_readCommand.2.1 232 = .ok (.goto (4), 3) := by decide +kernel
theorem d_MD_readCommand_235 : decode Y_MD_readCommand.2.1 235 = .ok (.iconst (0), 1) := by decide +kernel
theorem d_MD_readCommand_236 : decode Y_MD_readCommand.2.1 236 = .ok (.ireturn, 1) := by decide +kernel
theorem d_MD_readCommand_237 : decode Y_MD_readCommand.2.1 237 = .ok (.aload_n 0, 1) := by decide +kernel
theorem d_MD_readCommand_238 : decode Y_MD_readCommand.2.1 238 = .ok (.iconst (0), 1) := by decide +kernel
theorem d_MD_readCommand_239 : decode Y_MD_readCommand.2.1 239 = .ok (.iconst (1), 1) := by decide +kernel
theorem d_MD_readCommand_240 : decode Y_MD_readCommand.2.1 240 = .ok (.iconst (1), 1) := by decide +kernel
theorem d_MD_readCommand_241 : decode Y_MD_readCommand.2.1 241 = .ok (.bipush (9), 2) := by decide +kernel
theorem d_MD_readCommand_243 : decode Y_MD_readCommand.2.1 243 = .ok (.invokevirtual 137, 3) := by decide +kernel
theorem d_MD_readCommand_246 : decode Y_MD_readCommand.2.1 246 = .ok (.istore_n 3, 1) := by decide +kernel
theorem d_MD_readCommand_247 : decode Y_MD_readCommand.2.1 247 = .ok (.iload_n 3, 1) := by decide +kernel
theorem d_MD_readCommand_248 : decode Y_MD_readCommand.2.1 248 = .ok (.iconst (-1), 1) := by decide +kernel
theorem d_MD_readCommand_249 : decode Y_MD_readCommand.2.1 249 = .ok (.if_icmp .eq (28), 3) := by decide +kernel
theorem d_MD_readCommand_252 : decode Y_MD_readCommand.2.1 252 = .ok (.aload_n 0, 1) := by decide +kernel
theorem d_MD_readCommand_253 : decode Y_MD_readCommand.2.1 253 = .ok (.aload_n 1, 1) := by decide +kernel
theorem d_MD_readCommand_254 : decode Y_MD_readCommand.2.1 254 = .ok (.iconst (0), 1) := by decide +kernel
theorem d_MD_readCommand_255 : decode Y_MD_readCommand.2.1 255 = .ok (.iload_n 3, 1) := by decide +kernel
theorem d_MD_readCommand_256 : decode Y_MD_readCommand.2.1 256 = .ok (.invokestatic 175, 3) := by decide +kernel
theorem d_MD_readCommand_259 : decode Y_MD_readCommand.2.1 259 = .ok (.ifCond .lt (7), 3) := by decide +kernel
theorem d_MD_readCommand_262 : decode Y_MD_readCommand.2.1 262 = .ok (.iconst (1), 1) := by decide +kernel
theorem d_MD_readCommand_263 : decode Y_MD_readCommand.2.1 263 = .ok (.goto (4), 3) := by decide +kernel
theorem d_MD_readCommand_266 : decode Y_MD_readCommand.2.1 266 = .ok (.iconst (0), 1) := by decide +kernel
theorem d_MD_readCommand_267 : decode Y_MD_readCommand.2.1 267 = .ok (.invokevirtual 145, 3) := by decide +kernel
theorem d_MD_readCommand_270 : decode Y_MD_readCommand.2.1 270 = .ok (.ifCond .eq (7), 3) := by decide +kernel
theorem d_MD_readCommand_273 : decode Y_MD_readCommand.2.1 273 = .ok (.iconst (1), 1) := by decide +kernel
theorem d_MD_readCommand_274 : decode Y_MD_readCommand.2.1 274 = .ok (.goto (4), 3) := by decide +kernel
theorem d_MD_readCommand_277 : decode Y_MD_readCommand.2.1 277 = .ok (.iconst (0), 1) := by decide +kernel
theorem d_MD_readCommand_278 : decode Y_MD_readCommand.2.1 278 = .ok (.ireturn, 1) := by decide +kernel
theorem d_MD_readCommand_279 : decode Y_MD_readCommand.2.1 279 = .ok (.aload_n 0, 1) := by decide +kernel
theorem d_MD_readCommand_280 : decode Y_MD_readCommand.2.1 280 = .ok (.iconst (0), 1) := by decide +kernel
theorem d_MD_readCommand_281 : decode Y_MD_readCommand.2.1 281 = .ok (.iconst (2), 1) := by decide +kernel
theorem d_MD_readCommand_282 : decode Y_MD_readCommand.2.1 282 = .ok (.iconst (1), 1) := by decide +kernel
theorem d_MD_readCommand_283 : decode Y_MD_readCommand.2.1 283 = .ok (.bipush (99), 2) := by decide +kernel
theorem d_MD_readCommand_285 : decode Y_MD_readCommand.2.1 285 = .ok (.invokevirtual 137, 3) := by decide +kernel
theorem d_MD_readCommand_288 : decode Y_MD_readCommand.2.1 288 = .ok (.istore_n 3, 1) := by decide +kernel
theorem d_MD_readCommand_289 : decode Y_MD_readCommand.2.1 289 = .ok (.iload_n 3, 1) := by decide +kernel
theorem d_MD_readCommand_290 : decode Y_MD_readCommand.2.1 290 = .ok (.iconst (-1), 1) := by decide +kernel
theorem d_MD_readCommand_291 : decode Y_MD_readCommand.2.1 291 = .ok (.if_icmp .eq (27), 3) := by decide +kernel
theorem d_MD_readCommand_294 : decode Y_MD_readCommand.2.1 294 = .ok (.aload_n 0, 1) := by decide +kernel
theorem d_MD_readCommand_295 : decode Y_MD_readCommand.2.1 295 = .ok (.aload_n 1, 1) := by decide +kernel
theorem d_MD_readCommand_296 : decode Y_MD_readCommand.2.1 296 = .ok (.iload_n 3, 1) := by decide +kernel
theorem d_MD_readCommand_297 : decode Y_MD_readCommand.2.1 297 = .ok (.invokestatic 178, 3) := by decide +kernel
theorem d_MD_readCommand_300 : decode Y_MD_readCommand.2.1 300 = .ok (.ifCond .lt (7), 3) := by decide +kernel
theorem d_MD_readCommand_303 : decode Y_MD_readCommand.2.1 303 = .ok (.iconst (1), 1) := by decide +kernel
theorem d_MD_readCommand_304 : decode Y_MD_readCommand.2.1 304 = .ok (.goto (4), 3) := by decide +kernel
theorem d_MD_readCommand_307 : decode Y_MD_readCommand.2.1 307 = .ok (.iconst (0), 1) := by decide +kernel
theorem d_MD_readCommand_308 : decode Y_MD_readCommand.2.1 308 = .ok (.invokevirtual 145, 3) := by decide +kernel
theorem d_MD_readCommand_311 : decode Y_MD_readCommand.2.1 311 = .ok (.ifCond .eq (7), 3) := by decide +kernel
theorem d_MD_readCommand_314 : decode Y_MD_readCommand.2.1 314 = .ok (.iconst (1), 1) := by decide +kernel
theorem d_MD_readCommand_315 : decode Y_MD_readCommand.2.1 315 = .ok (.goto (4), 3) := by decide +kernel
theorem d_MD_readCommand_318 : decode Y_MD_readCommand.2.1 318 = .ok (.iconst (0), 1) := by decide +kernel
theorem d_MD_readCommand_319 : decode Y_MD_readCommand.2.1 319 = .ok (.ireturn, 1) := by decide +kernel
theorem d_MD_readCommand_320 : decode Y_MD_readCommand.2.1 320 = .ok (.aload_n 0, 1) := by decide +kernel
theorem d_MD_readCommand_321 : decode Y_MD_readCommand.2.1 321 = .ok (.dup, 1) := by decide +kernel
theorem d_MD_readCommand_322 : decode Y_MD_readCommand.2.1 322 = .ok (.getfield 131, 3) := by decide +kernel
theorem d_MD_readCommand_325 : decode Y_MD_readCommand.2.1 325 = .ok (.iconst (1), 1) := by decide +kernel
theorem d_MD_readCommand_326 : decode Y_MD_readCommand.2.1 326 = .ok (.isub, 1) := by decide +kernel
theorem d_MD_readCommand_327 : decode Y_MD_readCommand.2.1 327 = .ok (.putfield 131, 3) := by decide +kernel
theorem d_MD_readCommand_330 : decode Y_MD_readCommand.2.1 330 = .ok (.iconst (0), 1) := by decide +kernel
theorem d_MD_readCommand_331 : decode Y_MD_readCommand.2.1 331 = .ok (.ireturn, 1) := by decide +kernel
def f_MD_readCommand (w : zW) (D : zD) (a : Nat) (r1 : Nat) : Option (Int32 × zD) := zref w 8 1 a (fun p1 => zfld w D 8 9 a (fun v2 => zald w D 0 p1 v2 (fun v3 => zfld w D 8 9 a (fun v4 => zput w D 8 9 a (v4 + (1 : Int32)) (fun D5 => (if v3 = (99 : Int32) then zjp (fun (s0 : Int32) (D6 : zD) => zchk (s0 = 0 ∨ s0 = 1) (some (s0, D6))) (fun j278 => zjp (fun (D7 : zD) => j278 (0 : Int32) D7) (fun j277 => zobj w 8 a (zci (f_MD_figures w D5 a (0 : Int32) (1 : Int32) (1 : Int32) (9 : Int32)) (fun v8 D9 => (if v8 = (-1 : Int32) then j277 D9 else zjp (fun (s0 : Nat) (s1 : Int32) (D10 : zD) => zobj w 8 s0 (zci (f_MD_done w D10 s0 s1) (fun v11 D12 => (if v11 = 0 then j277 D12 else j278 (1 : Int32) D12)))) (fun j267 => zci (f_MD_change w D9 r1 (0 : Int32) v8) (fun v13 D14 => (if v13 < 0 then j267 a (0 : Int32) D14 else j267 a (1 : Int32) D14)))))))) else (if v3 = (104 : Int32) then zobj w 8 a (zci (f_MD_readHearer w D5 a r1) (fun v15 D16 => zchk (v15 = 0 ∨ v15 = 1) (some (v15, D16)))) else (if v3 = (111 : Int32) then zjp (fun (s0 : Int32) (D17 : zD) => zchk (s0 = 0 ∨ s0 = 1) (some (s0, D17))) (fun j236 => zjp (fun (D18 : zD) => j236 (0 : Int32) D18) (fun j235 => zobj w 8 a (zci (f_MD_figures w D5 a (0 : Int32) (1 : Int32) (0 : Int32) (3 : Int32)) (fun v19 D20 => zobj w 8 a (zci (f_MD_either w D20 a v19 (43 : Int32) (45 : Int32)) (fun v21 D22 => (if v21 = (-1 : Int32) then j235 D22 else zjp (fun (s0 : Nat) (s1 : Int32) (D23 : zD) => zobj w 8 s0 (zci (f_MD_done w D23 s0 s1) (fun v24 D25 => (if v24 = 0 then j235 D25 else j236 (1 : Int32) D25)))) (fun j225 => zjp (fun (s0 : Nat) (D26 : zD) => j225 s0 (0 : Int32) D26) (fun j224 => zci (f_MD_isSiren w D22 r1 v19) (fun v27 D28 => (if v27 = 0 then j224 a D28 else zjp (fun (s0 : Nat) (s1 : Nat) (s2 : Int32) (s3 : Int32) (D29 : zD) => zci (f_MD_turnOn w D29 s1 s2 s3) (fun v30 D31 => (if v30 < 0 then j224 s0 D31 else j225 s0 (1 : Int32) D31))) (fun j214 => (if v21 = (1 : Int32) then j214 a r1 v19 (1 : Int32) D28 else j214 a r1 v19 (0 : Int32) D28))))))))))))) else (if v3 = (115 : Int32) then zobj w 8 a (zci (f_MD_readSiren w D5 a r1) (fun v32 D33 => zchk (v32 = 0 ∨ v32 = 1) (some (v32, D33)))) else (if v3 = (116 : Int32) then zjp (fun (s0 : Int32) (D34 : zD) => zchk (s0 = 0 ∨ s0 = 1) (some (s0, D34))) (fun j319 => zjp (fun (D35 : zD) => j319 (0 : Int32) D35) (fun j318 => zobj w 8 a (zci (f_MD_figures w D5 a (0 : Int32) (2 : Int32) (1 : Int32) (99 : Int32)) (fun v36 D37 => (if v36 = (-1 : Int32) then j318 D37 else zjp (fun (s0 : Nat) (s1 : Int32) (D38 : zD) => zobj w 8 s0 (zci (f_MD_done w D38 s0 s1) (fun v39 D40 => (if v39 = 0 then j318 D40 else j319 (1 : Int32) D40)))) (fun j308 => zci (f_MD_ticksOn w D37 r1 v36) (fun v41 D42 => (if v41 < 0 then j308 a (0 : Int32) D42 else j308 a (1 : Int32) D42)))))))) else (if v3 = (119 : Int32) then zjp (fun (s0 : Int32) (D43 : zD) => zchk (s0 = 0 ∨ s0 = 1) (some (s0, D43))) (fun j165 => zjp (fun (D44 : zD) => j165 (0 : Int32) D44) (fun j164 => zobj w 8 a (zci (f_MD_either w D5 a (0 : Int32) (117 : Int32) (108 : Int32)) (fun v45 D46 => zobj w 8 a (zci (f_MD_figures w D46 a v45 (2 : Int32) (0 : Int32) (80 : Int32)) (fun v47 D48 => (if v47 = (-1 : Int32) then j164 D48 else zjp (fun (s0 : Nat) (s1 : Int32) (D49 : zD) => zobj w 8 s0 (zci (f_MD_done w D49 s0 s1) (fun v50 D51 => (if v50 = 0 then j164 D51 else j165 (1 : Int32) D51)))) (fun j154 => zjp (fun (s0 : Nat) (D52 : zD) => j154 s0 (0 : Int32) D52) (fun j153 => zald w D48 0 r1 (2 : Int32) (fun v53 => (if (3 : Int32) ≤ v53 then j153 a D48 else zjp (fun (x4 : Int32) (s0 : Nat) (s1 : Nat) (s2 : Int32) (D54 : zD) => zci (f_MD_wallOn w D54 s1 s2 (x4 - (40 : Int32))) (fun v55 D56 => (if v55 < 0 then j153 s0 D56 else j154 s0 (1 : Int32) D56))) (fun j138 => (if v45 = (1 : Int32) then j138 v47 a r1 (1 : Int32) D48 else j138 v47 a r1 (0 : Int32) D48))))))))))))) else zfld w D5 8 9 a (fun v57 => zput w D5 8 9 a (v57 - (1 : Int32)) (fun D58 => some ((0 : Int32), D58))))))))))))))
set_option maxHeartbeats 4000000 in
set_option maxRecDepth 100000 in
theorem c_MD_readCommand (z : zT) (D : zD) (a : Nat) (r1 : Nat) : zM Y_MD_readCommand 6 0 0 (zqI z) (f_MD_readCommand z.2 D a r1) [.ref a, .ref r1] z D := by
  refine zM_of (plainFor_of_name (by decide +kernel)) rfl (Nat.le_of_ble_eq_true rfl) (fun _ _ _ _ h => nomatch h.1) (fun K => ?_)
  unfold f_MD_readCommand
  refine z_aload_n (pc := 0) d_MD_readCommand_0 rfl 0 rfl ?_
  refine z_getR (pc := 1) fl_MD_7 d_MD_readCommand_1 (fun p1 => ?_)
  refine z_aload_n (pc := 4) d_MD_readCommand_4 rfl 0 rfl ?_
  refine z_getI (pc := 5) fl_MD_131 d_MD_readCommand_5 (fun v2 => ?_)
  refine z_iaload (pc := 8) d_MD_readCommand_8 (fun v3 => ?_)
  refine z_istore_n (pc := 9) d_MD_readCommand_9 rfl (by decide) (lv' := [(2, .int v3), (0, .ref a), (1, .ref r1)]) rfl ?_
  refine z_aload_n (pc := 10) d_MD_readCommand_10 rfl 1 rfl ?_
  refine z_dup (pc := 11) d_MD_readCommand_11 rfl ?_
  refine z_getI (pc := 12) fl_MD_131 d_MD_readCommand_12 (fun v4 => ?_)
  refine z_iconst (pc := 15) d_MD_readCommand_15 ki_1 ?_
  refine z_iadd (pc := 16) d_MD_readCommand_16 ?_
  refine z_putI (pc := 17) fl_MD_131 d_MD_readCommand_17 (fun D5 => ?_)
  refine z_iload_n (pc := 20) d_MD_readCommand_20 rfl 0 rfl ?_
  refine z_case (fun e99 => ?_) (fun e99 => ?_)
  · refine z_lookup (pc := 21) (tgt := 237) d_MD_readCommand_21 rfl (by rw [e99]) (by decide) ?_
    refine z_jp (fun j278 : Int32 → zD → Option (Int32 × zD) => ∀ (s0 : Int32) (D6 : zD), zGO K Y_MD_readCommand 6 0 0 (zqI z) (j278 s0 D6) 0 0 z D6 278 [] [.int s0]) (fun s0 D6 => ?_) (fun j278 h278 => ?_)
    · exact z_zret (pc := 278) d_MD_readCommand_278 rfl
    · refine z_jp (fun j277 : zD → Option (Int32 × zD) => ∀ (D7 : zD), zGO K Y_MD_readCommand 6 0 0 (zqI z) (j277  D7) 0 0 z D7 277 [] []) (fun  D7 => ?_) (fun j277 h277 => ?_)
      · refine z_iconst (pc := 277) d_MD_readCommand_277 ki_0 ?_
        exact z_sub [] rfl (h278 (0 : Int32) D7)
      · refine z_aload_n (pc := 237) d_MD_readCommand_237 rfl 1 rfl ?_
        refine z_iconst (pc := 238) d_MD_readCommand_238 ki_0 ?_
        refine z_iconst (pc := 239) d_MD_readCommand_239 ki_1 ?_
        refine z_iconst (pc := 240) d_MD_readCommand_240 ki_1 ?_
        refine z_bipush (pc := 241) d_MD_readCommand_241 kb_9 ?_
        refine z_callVi (pc := 243) [.int (0 : Int32), .int (1 : Int32), .int (1 : Int32), .int (9 : Int32)] lkV_MD_137 rfl (c_MD_figures z D5 a (0 : Int32) (1 : Int32) (1 : Int32) (9 : Int32)) (by decide) rfl rfl (Nat.le_of_ble_eq_true rfl) d_MD_readCommand_243 (fun v8 D9 => ?_)
        refine z_istore_n (pc := 246) d_MD_readCommand_246 rfl (by decide) (lv' := [(3, .int v8), (2, .int v3), (0, .ref a), (1, .ref r1)]) rfl ?_
        refine z_iload_n (pc := 247) d_MD_readCommand_247 rfl 0 rfl ?_
        refine z_iconst (pc := 248) d_MD_readCommand_248 ki_m1 ?_
        refine z_icmp_eq (pc := 249) (tgt := 277) d_MD_readCommand_249 (by decide) ?_ ?_
        · exact z_sub [] rfl (h277 D9)
        · refine z_jp (fun j267 : Nat → Int32 → zD → Option (Int32 × zD) => ∀ (s0 : Nat) (s1 : Int32) (D10 : zD), zGO K Y_MD_readCommand 6 0 0 (zqI z) (j267 s0 s1 D10) 0 0 z D10 267 [] [.int s1, .ref s0]) (fun s0 s1 D10 => ?_) (fun j267 h267 => ?_)
          · refine z_callVi (pc := 267) [.int s1] lkV_MD_145 rfl (c_MD_done z D10 s0 s1) (by decide) rfl rfl (Nat.le_of_ble_eq_true rfl) d_MD_readCommand_267 (fun v11 D12 => ?_)
            refine z_if_eq (pc := 270) (tgt := 277) d_MD_readCommand_270 (by decide) ?_ ?_
            · exact z_sub [] rfl (h277 D12)
            · refine z_iconst (pc := 273) d_MD_readCommand_273 ki_1 ?_
              refine z_goto (pc := 274) (tgt := 278) d_MD_readCommand_274 (by decide) ?_
              exact z_sub [] rfl (h278 (1 : Int32) D12)
          · refine z_aload_n (pc := 252) d_MD_readCommand_252 rfl 2 rfl ?_
            refine z_aload_n (pc := 253) d_MD_readCommand_253 rfl 3 rfl ?_
            refine z_iconst (pc := 254) d_MD_readCommand_254 ki_0 ?_
            refine z_iload_n (pc := 255) d_MD_readCommand_255 rfl 0 rfl ?_
            refine z_callSi (pc := 256) [.ref r1, .int (0 : Int32), .int v8] lkS_MD_175 (c_MD_change z D9 r1 (0 : Int32) v8) (by decide) rfl rfl (Nat.le_of_ble_eq_true rfl) d_MD_readCommand_256 (fun v13 D14 => ?_)
            refine z_if_lt (pc := 259) (tgt := 266) d_MD_readCommand_259 (by decide) ?_ ?_
            · refine z_iconst (pc := 266) d_MD_readCommand_266 ki_0 ?_
              exact z_sub [] rfl (h267 a (0 : Int32) D14)
            · refine z_iconst (pc := 262) d_MD_readCommand_262 ki_1 ?_
              refine z_goto (pc := 263) (tgt := 267) d_MD_readCommand_263 (by decide) ?_
              exact z_sub [] rfl (h267 a (1 : Int32) D14)
  · refine z_case (fun e104 => ?_) (fun e104 => ?_)
    · refine z_lookup (pc := 21) (tgt := 86) d_MD_readCommand_21 rfl (by rw [e104]) (by decide) ?_
      refine z_aload_n (pc := 86) d_MD_readCommand_86 rfl 1 rfl ?_
      refine z_aload_n (pc := 87) d_MD_readCommand_87 rfl 2 rfl ?_
      refine z_callVi (pc := 88) [.ref r1] lkV_MD_157 rfl (c_MD_readHearer z D5 a r1) (by decide) rfl rfl (Nat.le_of_ble_eq_true rfl) d_MD_readCommand_88 (fun v15 D16 => ?_)
      exact z_zret (pc := 91) d_MD_readCommand_91 rfl
    · refine z_case (fun e111 => ?_) (fun e111 => ?_)
      · refine z_lookup (pc := 21) (tgt := 166) d_MD_readCommand_21 rfl (by rw [e111]) (by decide) ?_
        refine z_jp (fun j236 : Int32 → zD → Option (Int32 × zD) => ∀ (s0 : Int32) (D17 : zD), zGO K Y_MD_readCommand 6 0 0 (zqI z) (j236 s0 D17) 0 0 z D17 236 [] [.int s0]) (fun s0 D17 => ?_) (fun j236 h236 => ?_)
        · exact z_zret (pc := 236) d_MD_readCommand_236 rfl
        · refine z_jp (fun j235 : zD → Option (Int32 × zD) => ∀ (D18 : zD), zGO K Y_MD_readCommand 6 0 0 (zqI z) (j235  D18) 0 0 z D18 235 [] []) (fun  D18 => ?_) (fun j235 h235 => ?_)
          · refine z_iconst (pc := 235) d_MD_readCommand_235 ki_0 ?_
            exact z_sub [] rfl (h236 (0 : Int32) D18)
          · refine z_aload_n (pc := 166) d_MD_readCommand_166 rfl 1 rfl ?_
            refine z_iconst (pc := 167) d_MD_readCommand_167 ki_0 ?_
            refine z_iconst (pc := 168) d_MD_readCommand_168 ki_1 ?_
            refine z_iconst (pc := 169) d_MD_readCommand_169 ki_0 ?_
            refine z_iconst (pc := 170) d_MD_readCommand_170 ki_3 ?_
            refine z_callVi (pc := 171) [.int (0 : Int32), .int (1 : Int32), .int (0 : Int32), .int (3 : Int32)] lkV_MD_137 rfl (c_MD_figures z D5 a (0 : Int32) (1 : Int32) (0 : Int32) (3 : Int32)) (by decide) rfl rfl (Nat.le_of_ble_eq_true rfl) d_MD_readCommand_171 (fun v19 D20 => ?_)
            refine z_istore_n (pc := 174) d_MD_readCommand_174 rfl (by decide) (lv' := [(3, .int v19), (2, .int v3), (0, .ref a), (1, .ref r1)]) rfl ?_
            refine z_aload_n (pc := 175) d_MD_readCommand_175 rfl 2 rfl ?_
            refine z_iload_n (pc := 176) d_MD_readCommand_176 rfl 0 rfl ?_
            refine z_bipush (pc := 177) d_MD_readCommand_177 kb_43 ?_
            refine z_bipush (pc := 179) d_MD_readCommand_179 kb_45 ?_
            refine z_callVi (pc := 181) [.int v19, .int (43 : Int32), .int (45 : Int32)] lkV_MD_160 rfl (c_MD_either z D20 a v19 (43 : Int32) (45 : Int32)) (by decide) rfl rfl (Nat.le_of_ble_eq_true rfl) d_MD_readCommand_181 (fun v21 D22 => ?_)
            refine z_istore (pc := 184) d_MD_readCommand_184 (by decide) (lv' := [(4, .int v21), (3, .int v19), (2, .int v3), (0, .ref a), (1, .ref r1)]) rfl ?_
            refine z_iload (pc := 186) d_MD_readCommand_186 0 rfl ?_
            refine z_iconst (pc := 188) d_MD_readCommand_188 ki_m1 ?_
            refine z_icmp_eq (pc := 189) (tgt := 235) d_MD_readCommand_189 (by decide) ?_ ?_
            · exact z_sub [] rfl (h235 D22)
            · refine z_jp (fun j225 : Nat → Int32 → zD → Option (Int32 × zD) => ∀ (s0 : Nat) (s1 : Int32) (D23 : zD), zGO K Y_MD_readCommand 6 0 0 (zqI z) (j225 s0 s1 D23) 0 0 z D23 225 [] [.int s1, .ref s0]) (fun s0 s1 D23 => ?_) (fun j225 h225 => ?_)
              · refine z_callVi (pc := 225) [.int s1] lkV_MD_145 rfl (c_MD_done z D23 s0 s1) (by decide) rfl rfl (Nat.le_of_ble_eq_true rfl) d_MD_readCommand_225 (fun v24 D25 => ?_)
                refine z_if_eq (pc := 228) (tgt := 235) d_MD_readCommand_228 (by decide) ?_ ?_
                · exact z_sub [] rfl (h235 D25)
                · refine z_iconst (pc := 231) d_MD_readCommand_231 ki_1 ?_
                  refine z_goto (pc := 232) (tgt := 236) d_MD_readCommand_232 (by decide) ?_
                  exact z_sub [] rfl (h236 (1 : Int32) D25)
              · refine z_jp (fun j224 : Nat → zD → Option (Int32 × zD) => ∀ (s0 : Nat) (D26 : zD), zGO K Y_MD_readCommand 6 0 0 (zqI z) (j224 s0 D26) 0 0 z D26 224 [] [.ref s0]) (fun s0 D26 => ?_) (fun j224 h224 => ?_)
                · refine z_iconst (pc := 224) d_MD_readCommand_224 ki_0 ?_
                  exact z_sub [] rfl (h225 s0 (0 : Int32) D26)
                · refine z_aload_n (pc := 192) d_MD_readCommand_192 rfl 3 rfl ?_
                  refine z_aload_n (pc := 193) d_MD_readCommand_193 rfl 4 rfl ?_
                  refine z_iload_n (pc := 194) d_MD_readCommand_194 rfl 1 rfl ?_
                  refine z_callSi (pc := 195) [.ref r1, .int v19] lkS_MD_168 (c_MD_isSiren z D22 r1 v19) (by decide) rfl rfl (Nat.le_of_ble_eq_true rfl) d_MD_readCommand_195 (fun v27 D28 => ?_)
                  refine z_if_eq (pc := 198) (tgt := 224) d_MD_readCommand_198 (by decide) ?_ ?_
                  · exact z_sub [] rfl (h224 a D28)
                  · refine z_jp (fun j214 : Nat → Nat → Int32 → Int32 → zD → Option (Int32 × zD) => ∀ (s0 : Nat) (s1 : Nat) (s2 : Int32) (s3 : Int32) (D29 : zD), zGO K Y_MD_readCommand 6 0 0 (zqI z) (j214 s0 s1 s2 s3 D29) 0 0 z D29 214 [] [.int s3, .int s2, .ref s1, .ref s0]) (fun s0 s1 s2 s3 D29 => ?_) (fun j214 h214 => ?_)
                    · refine z_callSi (pc := 214) [.ref s1, .int s2, .int s3] lkS_MD_171 (c_MD_turnOn z D29 s1 s2 s3) (by decide) rfl rfl (Nat.le_of_ble_eq_true rfl) d_MD_readCommand_214 (fun v30 D31 => ?_)
                      refine z_if_lt (pc := 217) (tgt := 224) d_MD_readCommand_217 (by decide) ?_ ?_
                      · exact z_sub [] rfl (h224 s0 D31)
                      · refine z_iconst (pc := 220) d_MD_readCommand_220 ki_1 ?_
                        refine z_goto (pc := 221) (tgt := 225) d_MD_readCommand_221 (by decide) ?_
                        exact z_sub [] rfl (h225 s0 (1 : Int32) D31)
                    · refine z_aload_n (pc := 201) d_MD_readCommand_201 rfl 4 rfl ?_
                      refine z_iload_n (pc := 202) d_MD_readCommand_202 rfl 1 rfl ?_
                      refine z_iload (pc := 203) d_MD_readCommand_203 0 rfl ?_
                      refine z_iconst (pc := 205) d_MD_readCommand_205 ki_1 ?_
                      refine z_icmp_ne (pc := 206) (tgt := 213) d_MD_readCommand_206 (by decide) ?_ ?_
                      · refine z_iconst (pc := 209) d_MD_readCommand_209 ki_1 ?_
                        refine z_goto (pc := 210) (tgt := 214) d_MD_readCommand_210 (by decide) ?_
                        exact z_sub [] rfl (h214 a r1 v19 (1 : Int32) D28)
                      · refine z_iconst (pc := 213) d_MD_readCommand_213 ki_0 ?_
                        exact z_sub [] rfl (h214 a r1 v19 (0 : Int32) D28)
      · refine z_case (fun e115 => ?_) (fun e115 => ?_)
        · refine z_lookup (pc := 21) (tgt := 80) d_MD_readCommand_21 rfl (by rw [e115]) (by decide) ?_
          refine z_aload_n (pc := 80) d_MD_readCommand_80 rfl 1 rfl ?_
          refine z_aload_n (pc := 81) d_MD_readCommand_81 rfl 2 rfl ?_
          refine z_callVi (pc := 82) [.ref r1] lkV_MD_153 rfl (c_MD_readSiren z D5 a r1) (by decide) rfl rfl (Nat.le_of_ble_eq_true rfl) d_MD_readCommand_82 (fun v32 D33 => ?_)
          exact z_zret (pc := 85) d_MD_readCommand_85 rfl
        · refine z_case (fun e116 => ?_) (fun e116 => ?_)
          · refine z_lookup (pc := 21) (tgt := 279) d_MD_readCommand_21 rfl (by rw [e116]) (by decide) ?_
            refine z_jp (fun j319 : Int32 → zD → Option (Int32 × zD) => ∀ (s0 : Int32) (D34 : zD), zGO K Y_MD_readCommand 6 0 0 (zqI z) (j319 s0 D34) 0 0 z D34 319 [] [.int s0]) (fun s0 D34 => ?_) (fun j319 h319 => ?_)
            · exact z_zret (pc := 319) d_MD_readCommand_319 rfl
            · refine z_jp (fun j318 : zD → Option (Int32 × zD) => ∀ (D35 : zD), zGO K Y_MD_readCommand 6 0 0 (zqI z) (j318  D35) 0 0 z D35 318 [] []) (fun  D35 => ?_) (fun j318 h318 => ?_)
              · refine z_iconst (pc := 318) d_MD_readCommand_318 ki_0 ?_
                exact z_sub [] rfl (h319 (0 : Int32) D35)
              · refine z_aload_n (pc := 279) d_MD_readCommand_279 rfl 1 rfl ?_
                refine z_iconst (pc := 280) d_MD_readCommand_280 ki_0 ?_
                refine z_iconst (pc := 281) d_MD_readCommand_281 ki_2 ?_
                refine z_iconst (pc := 282) d_MD_readCommand_282 ki_1 ?_
                refine z_bipush (pc := 283) d_MD_readCommand_283 kb_99 ?_
                refine z_callVi (pc := 285) [.int (0 : Int32), .int (2 : Int32), .int (1 : Int32), .int (99 : Int32)] lkV_MD_137 rfl (c_MD_figures z D5 a (0 : Int32) (2 : Int32) (1 : Int32) (99 : Int32)) (by decide) rfl rfl (Nat.le_of_ble_eq_true rfl) d_MD_readCommand_285 (fun v36 D37 => ?_)
                refine z_istore_n (pc := 288) d_MD_readCommand_288 rfl (by decide) (lv' := [(3, .int v36), (2, .int v3), (0, .ref a), (1, .ref r1)]) rfl ?_
                refine z_iload_n (pc := 289) d_MD_readCommand_289 rfl 0 rfl ?_
                refine z_iconst (pc := 290) d_MD_readCommand_290 ki_m1 ?_
                refine z_icmp_eq (pc := 291) (tgt := 318) d_MD_readCommand_291 (by decide) ?_ ?_
                · exact z_sub [] rfl (h318 D37)
                · refine z_jp (fun j308 : Nat → Int32 → zD → Option (Int32 × zD) => ∀ (s0 : Nat) (s1 : Int32) (D38 : zD), zGO K Y_MD_readCommand 6 0 0 (zqI z) (j308 s0 s1 D38) 0 0 z D38 308 [] [.int s1, .ref s0]) (fun s0 s1 D38 => ?_) (fun j308 h308 => ?_)
                  · refine z_callVi (pc := 308) [.int s1] lkV_MD_145 rfl (c_MD_done z D38 s0 s1) (by decide) rfl rfl (Nat.le_of_ble_eq_true rfl) d_MD_readCommand_308 (fun v39 D40 => ?_)
                    refine z_if_eq (pc := 311) (tgt := 318) d_MD_readCommand_311 (by decide) ?_ ?_
                    · exact z_sub [] rfl (h318 D40)
                    · refine z_iconst (pc := 314) d_MD_readCommand_314 ki_1 ?_
                      refine z_goto (pc := 315) (tgt := 319) d_MD_readCommand_315 (by decide) ?_
                      exact z_sub [] rfl (h319 (1 : Int32) D40)
                  · refine z_aload_n (pc := 294) d_MD_readCommand_294 rfl 2 rfl ?_
                    refine z_aload_n (pc := 295) d_MD_readCommand_295 rfl 3 rfl ?_
                    refine z_iload_n (pc := 296) d_MD_readCommand_296 rfl 0 rfl ?_
                    refine z_callSi (pc := 297) [.ref r1, .int v36] lkS_MD_178 (c_MD_ticksOn z D37 r1 v36) (by decide) rfl rfl (Nat.le_of_ble_eq_true rfl) d_MD_readCommand_297 (fun v41 D42 => ?_)
                    refine z_if_lt (pc := 300) (tgt := 307) d_MD_readCommand_300 (by decide) ?_ ?_
                    · refine z_iconst (pc := 307) d_MD_readCommand_307 ki_0 ?_
                      exact z_sub [] rfl (h308 a (0 : Int32) D42)
                    · refine z_iconst (pc := 303) d_MD_readCommand_303 ki_1 ?_
                      refine z_goto (pc := 304) (tgt := 308) d_MD_readCommand_304 (by decide) ?_
                      exact z_sub [] rfl (h308 a (1 : Int32) D42)
          · refine z_case (fun e119 => ?_) (fun e119 => ?_)
            · refine z_lookup (pc := 21) (tgt := 92) d_MD_readCommand_21 rfl (by rw [e119]) (by decide) ?_
              refine z_jp (fun j165 : Int32 → zD → Option (Int32 × zD) => ∀ (s0 : Int32) (D43 : zD), zGO K Y_MD_readCommand 6 0 0 (zqI z) (j165 s0 D43) 0 0 z D43 165 [] [.int s0]) (fun s0 D43 => ?_) (fun j165 h165 => ?_)
              · exact z_zret (pc := 165) d_MD_readCommand_165 rfl
              · refine z_jp (fun j164 : zD → Option (Int32 × zD) => ∀ (D44 : zD), zGO K Y_MD_readCommand 6 0 0 (zqI z) (j164  D44) 0 0 z D44 164 [] []) (fun  D44 => ?_) (fun j164 h164 => ?_)
                · refine z_iconst (pc := 164) d_MD_readCommand_164 ki_0 ?_
                  exact z_sub [] rfl (h165 (0 : Int32) D44)
                · refine z_aload_n (pc := 92) d_MD_readCommand_92 rfl 1 rfl ?_
                  refine z_iconst (pc := 93) d_MD_readCommand_93 ki_0 ?_
                  refine z_bipush (pc := 94) d_MD_readCommand_94 kb_117 ?_
                  refine z_bipush (pc := 96) d_MD_readCommand_96 kb_108 ?_
                  refine z_callVi (pc := 98) [.int (0 : Int32), .int (117 : Int32), .int (108 : Int32)] lkV_MD_160 rfl (c_MD_either z D5 a (0 : Int32) (117 : Int32) (108 : Int32)) (by decide) rfl rfl (Nat.le_of_ble_eq_true rfl) d_MD_readCommand_98 (fun v45 D46 => ?_)
                  refine z_istore_n (pc := 101) d_MD_readCommand_101 rfl (by decide) (lv' := [(3, .int v45), (2, .int v3), (0, .ref a), (1, .ref r1)]) rfl ?_
                  refine z_aload_n (pc := 102) d_MD_readCommand_102 rfl 2 rfl ?_
                  refine z_iload_n (pc := 103) d_MD_readCommand_103 rfl 0 rfl ?_
                  refine z_iconst (pc := 104) d_MD_readCommand_104 ki_2 ?_
                  refine z_iconst (pc := 105) d_MD_readCommand_105 ki_0 ?_
                  refine z_bipush (pc := 106) d_MD_readCommand_106 kb_80 ?_
                  refine z_callVi (pc := 108) [.int v45, .int (2 : Int32), .int (0 : Int32), .int (80 : Int32)] lkV_MD_137 rfl (c_MD_figures z D46 a v45 (2 : Int32) (0 : Int32) (80 : Int32)) (by decide) rfl rfl (Nat.le_of_ble_eq_true rfl) d_MD_readCommand_108 (fun v47 D48 => ?_)
                  refine z_istore (pc := 111) d_MD_readCommand_111 (by decide) (lv' := [(4, .int v47), (3, .int v45), (2, .int v3), (0, .ref a), (1, .ref r1)]) rfl ?_
                  refine z_iload (pc := 113) d_MD_readCommand_113 0 rfl ?_
                  refine z_iconst (pc := 115) d_MD_readCommand_115 ki_m1 ?_
                  refine z_icmp_eq (pc := 116) (tgt := 164) d_MD_readCommand_116 (by decide) ?_ ?_
                  · exact z_sub [] rfl (h164 D48)
                  · refine z_jp (fun j154 : Nat → Int32 → zD → Option (Int32 × zD) => ∀ (s0 : Nat) (s1 : Int32) (D49 : zD), zGO K Y_MD_readCommand 6 0 0 (zqI z) (j154 s0 s1 D49) 0 0 z D49 154 [] [.int s1, .ref s0]) (fun s0 s1 D49 => ?_) (fun j154 h154 => ?_)
                    · refine z_callVi (pc := 154) [.int s1] lkV_MD_145 rfl (c_MD_done z D49 s0 s1) (by decide) rfl rfl (Nat.le_of_ble_eq_true rfl) d_MD_readCommand_154 (fun v50 D51 => ?_)
                      refine z_if_eq (pc := 157) (tgt := 164) d_MD_readCommand_157 (by decide) ?_ ?_
                      · exact z_sub [] rfl (h164 D51)
                      · refine z_iconst (pc := 160) d_MD_readCommand_160 ki_1 ?_
                        refine z_goto (pc := 161) (tgt := 165) d_MD_readCommand_161 (by decide) ?_
                        exact z_sub [] rfl (h165 (1 : Int32) D51)
                    · refine z_jp (fun j153 : Nat → zD → Option (Int32 × zD) => ∀ (s0 : Nat) (D52 : zD), zGO K Y_MD_readCommand 6 0 0 (zqI z) (j153 s0 D52) 0 0 z D52 153 [] [.ref s0]) (fun s0 D52 => ?_) (fun j153 h153 => ?_)
                      · refine z_iconst (pc := 153) d_MD_readCommand_153 ki_0 ?_
                        exact z_sub [] rfl (h154 s0 (0 : Int32) D52)
                      · refine z_aload_n (pc := 119) d_MD_readCommand_119 rfl 3 rfl ?_
                        refine z_aload_n (pc := 120) d_MD_readCommand_120 rfl 4 rfl ?_
                        refine z_iconst (pc := 121) d_MD_readCommand_121 ki_2 ?_
                        refine z_iaload (pc := 122) d_MD_readCommand_122 (fun v53 => ?_)
                        refine z_iconst (pc := 123) d_MD_readCommand_123 ki_3 ?_
                        refine z_icmp_ge (pc := 124) (tgt := 153) d_MD_readCommand_124 (by decide) ?_ ?_
                        · exact z_sub [] rfl (h153 a D48)
                        · refine z_jp (fun j138 : Int32 → Nat → Nat → Int32 → zD → Option (Int32 × zD) => ∀ (x4 : Int32) (s0 : Nat) (s1 : Nat) (s2 : Int32) (D54 : zD), zGO K Y_MD_readCommand 6 0 0 (zqI z) (j138 x4 s0 s1 s2 D54) 0 0 z D54 138 [(4, .int x4)] [.int s2, .ref s1, .ref s0]) (fun x4 s0 s1 s2 D54 => ?_) (fun j138 h138 => ?_)
                          · refine z_iload (pc := 138) d_MD_readCommand_138 0 rfl ?_
                            refine z_bipush (pc := 140) d_MD_readCommand_140 kb_40 ?_
                            refine z_isub (pc := 142) d_MD_readCommand_142 ?_
                            refine z_callSi (pc := 143) [.ref s1, .int s2, .int (x4 - (40 : Int32))] lkS_MD_164 (c_MD_wallOn z D54 s1 s2 (x4 - (40 : Int32))) (by decide) rfl rfl (Nat.le_of_ble_eq_true rfl) d_MD_readCommand_143 (fun v55 D56 => ?_)
                            refine z_if_lt (pc := 146) (tgt := 153) d_MD_readCommand_146 (by decide) ?_ ?_
                            · exact z_sub [] rfl (h153 s0 D56)
                            · refine z_iconst (pc := 149) d_MD_readCommand_149 ki_1 ?_
                              refine z_goto (pc := 150) (tgt := 154) d_MD_readCommand_150 (by decide) ?_
                              exact z_sub [] rfl (h154 s0 (1 : Int32) D56)
                          · refine z_aload_n (pc := 127) d_MD_readCommand_127 rfl 4 rfl ?_
                            refine z_iload_n (pc := 128) d_MD_readCommand_128 rfl 1 rfl ?_
                            refine z_iconst (pc := 129) d_MD_readCommand_129 ki_1 ?_
                            refine z_icmp_ne (pc := 130) (tgt := 137) d_MD_readCommand_130 (by decide) ?_ ?_
                            · refine z_iconst (pc := 133) d_MD_readCommand_133 ki_1 ?_
                              refine z_goto (pc := 134) (tgt := 138) d_MD_readCommand_134 (by decide) ?_
                              exact z_sub [0] rfl (h138 v47 a r1 (1 : Int32) D48)
                            · refine z_iconst (pc := 137) d_MD_readCommand_137 ki_0 ?_
                              exact z_sub [0] rfl (h138 v47 a r1 (0 : Int32) D48)
            · refine z_lookup (pc := 21) (off := 299) (tgt := 320) d_MD_readCommand_21 rfl ((lv_osw e99 rfl).trans ((lv_osw e104 rfl).trans ((lv_osw e111 rfl).trans ((lv_osw e115 rfl).trans ((lv_osw e116 rfl).trans ((lv_osw e119 rfl).trans (rfl))))))) (by decide) ?_
              refine z_aload_n (pc := 320) d_MD_readCommand_320 rfl 1 rfl ?_
              refine z_dup (pc := 321) d_MD_readCommand_321 rfl ?_
              refine z_getI (pc := 322) fl_MD_131 d_MD_readCommand_322 (fun v57 => ?_)
              refine z_iconst (pc := 325) d_MD_readCommand_325 ki_1 ?_
              refine z_isub (pc := 326) d_MD_readCommand_326 ?_
              refine z_putI (pc := 327) fl_MD_131 d_MD_readCommand_327 (fun D58 => ?_)
              refine z_iconst (pc := 330) d_MD_readCommand_330 ki_0 ?_
              exact z_zretK (pc := 331) d_MD_readCommand_331 rfl (by decide)
theorem d_MD_ticks_0 : decode Y_MD_ticks.2.1 0 = .ok (.aload_n 0, 1) := by decide +kernel
theorem d_MD_ticks_1 : decode Y_MD_ticks.2.1 1 = .ok (.iload_n 1, 1) := by decide +kernel
theorem d_MD_ticks_2 : decode Y_MD_ticks.2.1 2 = .ok (.i2l, 1) := by decide +kernel
theorem d_MD_ticks_3 : decode Y_MD_ticks.2.1 3 = .ok (.lconst 1, 1) := by decide +kernel
theorem d_MD_ticks_4 : decode Y_MD_ticks.2.1 4 = .ok (.ldc2_w 43, 3) := by decide +kernel
theorem d_MD_ticks_7 : decode Y_MD_ticks.2.1 7 = .ok (.invokestatic 37, 3) := by decide +kernel
theorem d_MD_ticks_10 : decode Y_MD_ticks.2.1 10 = .ok (.ifCond .eq (7), 3) := by decide +kernel
theorem d_MD_ticks_13 : decode Y_MD_ticks.2.1 13 = .ok (.iconst (0), 1) := by decide +kernel
theorem d_MD_ticks_14 : decode Y_MD_ticks.2.1 14 = .ok (.goto (4), 3) := by decide +kernel
theorem d_MD_ticks_17 : decode Y_MD_ticks.2.1 17 = .ok (.iconst (1), 1) := by decide +kernel
theorem d_MD_ticks_18 : decode Y_MD_ticks.2.1 18 = .ok (.invokevirtual 127, 3) := by decide +kernel
theorem d_MD_ticks_21 : decode Y_MD_ticks.2.1 21 = .ok (.ifCond .eq (5), 3) := by decide +kernel
theorem d_MD_ticks_24 : decode Y_MD_ticks.2.1 24 = .ok (.iconst (0), 1) := by decide +kernel
theorem d_MD_ticks_25 : decode Y_MD_ticks.2.1 25 = .ok (.ireturn, 1) := by decide +kernel
theorem d_MD_ticks_26 : decode Y_MD_ticks.2.1 26 = .ok (.aload_n 0, 1) := by decide +kernel
theorem d_MD_ticks_27 : decode Y_MD_ticks.2.1 27 = .ok (.invokevirtual 216, 3) := by decide +kernel
theorem d_MD_ticks_30 : decode Y_MD_ticks.2.1 30 = .ok (.aload_n 0, 1) := by decide +kernel
theorem d_MD_ticks_31 : decode Y_MD_ticks.2.1 31 = .ok (.getfield 13, 3) := by decide +kernel
theorem d_MD_ticks_34 : decode Y_MD_ticks.2.1 34 = .ok (.iload_n 1, 1) := by decide +kernel
theorem d_MD_ticks_35 : decode Y_MD_ticks.2.1 35 = .ok (.invokestatic 178, 3) := by decide +kernel
theorem d_MD_ticks_38 : decode Y_MD_ticks.2.1 38 = .ok (.ireturn, 1) := by decide +kernel
def f_MD_ticks (w : zW) (D : zD) (a : Nat) (x1 : Int32) : Option (Int32 × zD) := zjp (fun (s0 : Nat) (s1 : Int32) (D1 : zD) => zobj w 8 s0 (zci (f_MD_refused w D1 s0 s1) (fun v2 D3 => (if v2 = 0 then zobj w 8 a (zcv (f_MD_remember w D3 a ) (fun D4 => zref w 8 3 a (fun p5 => zci (f_MD_ticksOn w D4 p5 x1) (fun v6 D7 => some (v6, D7))))) else some ((0 : Int32), D3))))) (fun j18 => zci (f_MD_in w D x1.toInt64 (1 : Int64) (99 : Int64)) (fun v8 D9 => (if v8 = 0 then j18 a (1 : Int32) D9 else j18 a (0 : Int32) D9)))
set_option maxHeartbeats 4000000 in
set_option maxRecDepth 100000 in
theorem c_MD_ticks (z : zT) (D : zD) (a : Nat) (x1 : Int32) : zM Y_MD_ticks 6 0 0 (zqI z) (f_MD_ticks z.2 D a x1) [.ref a, .int x1] z D := by
  refine zM_of (plainFor_of_name (by decide +kernel)) rfl (Nat.le_of_ble_eq_true rfl) (fun _ _ _ _ h => nomatch h.1) (fun K => ?_)
  unfold f_MD_ticks
  refine z_jp (fun j18 : Nat → Int32 → zD → Option (Int32 × zD) => ∀ (s0 : Nat) (s1 : Int32) (D1 : zD), zGO K Y_MD_ticks 6 0 0 (zqI z) (j18 s0 s1 D1) 0 0 z D1 18 [(0, .ref a), (1, .int x1)] [.int s1, .ref s0]) (fun s0 s1 D1 => ?_) (fun j18 h18 => ?_)
  · refine z_callVi (pc := 18) [.int s1] lkV_MD_127 rfl (c_MD_refused z D1 s0 s1) (by decide) rfl rfl (Nat.le_of_ble_eq_true rfl) d_MD_ticks_18 (fun v2 D3 => ?_)
    refine z_if_eq (pc := 21) (tgt := 26) d_MD_ticks_21 (by decide) ?_ ?_
    · refine z_aload_n (pc := 26) d_MD_ticks_26 rfl 0 rfl ?_
      refine z_callVv (pc := 27) [] lkV_MD_216 rfl (c_MD_remember z D3 a ) (by decide) rfl rfl (Nat.le_of_ble_eq_true rfl) d_MD_ticks_27 (fun D4 => ?_)
      refine z_aload_n (pc := 30) d_MD_ticks_30 rfl 0 rfl ?_
      refine z_getR (pc := 31) fl_MD_13 d_MD_ticks_31 (fun p5 => ?_)
      refine z_iload_n (pc := 34) d_MD_ticks_34 rfl 1 rfl ?_
      refine z_callSi (pc := 35) [.ref p5, .int x1] lkS_MD_178 (c_MD_ticksOn z D4 p5 x1) (by decide) rfl rfl (Nat.le_of_ble_eq_true rfl) d_MD_ticks_35 (fun v6 D7 => ?_)
      exact z_iret (pc := 38) d_MD_ticks_38 rfl
    · refine z_iconst (pc := 24) d_MD_ticks_24 ki_0 ?_
      exact z_iret (pc := 25) d_MD_ticks_25 rfl
  · refine z_aload_n (pc := 0) d_MD_ticks_0 rfl 0 rfl ?_
    refine z_iload_n (pc := 1) d_MD_ticks_1 rfl 1 rfl ?_
    refine z_i2l (pc := 2) d_MD_ticks_2 ?_
    refine z_lconst (pc := 3) d_MD_ticks_3 (v := 1) rfl ?_
    refine z_ldc2 (pc := 4) w_k_MD_43 d_MD_ticks_4 ?_
    refine z_callSi (pc := 7) [.long x1.toInt64, .long (1 : Int64), .long (99 : Int64)] lkS_MD_37 (c_MD_in z D x1.toInt64 (1 : Int64) (99 : Int64)) (by decide) rfl rfl (Nat.le_of_ble_eq_true rfl) d_MD_ticks_7 (fun v8 D9 => ?_)
    refine z_if_eq (pc := 10) (tgt := 17) d_MD_ticks_10 (by decide) ?_ ?_
    · refine z_iconst (pc := 17) d_MD_ticks_17 ki_1 ?_
      exact z_sub [0, 1] rfl (h18 a (1 : Int32) D9)
    · refine z_iconst (pc := 13) d_MD_ticks_13 ki_0 ?_
      refine z_goto (pc := 14) (tgt := 18) d_MD_ticks_14 (by decide) ?_
      exact z_sub [0, 1] rfl (h18 a (0 : Int32) D9)
theorem d_MD_leastSpeed_0 : decode Y_MD_leastSpeed.2.1 0 = .ok (.aload_n 0, 1) := by decide +kernel
theorem d_MD_leastSpeed_1 : decode Y_MD_leastSpeed.2.1 1 = .ok (.iload_n 1, 1) := by decide +kernel
theorem d_MD_leastSpeed_2 : decode Y_MD_leastSpeed.2.1 2 = .ok (.i2l, 1) := by decide +kernel
theorem d_MD_leastSpeed_3 : decode Y_MD_leastSpeed.2.1 3 = .ok (.lconst 1, 1) := by decide +kernel
theorem d_MD_leastSpeed_4 : decode Y_MD_leastSpeed.2.1 4 = .ok (.ldc2_w 43, 3) := by decide +kernel
theorem d_MD_leastSpeed_7 : decode Y_MD_leastSpeed.2.1 7 = .ok (.invokestatic 37, 3) := by decide +kernel
theorem d_MD_leastSpeed_10 : decode Y_MD_leastSpeed.2.1 10 = .ok (.ifCond .eq (7), 3) := by decide +kernel
theorem d_MD_leastSpeed_13 : decode Y_MD_leastSpeed.2.1 13 = .ok (.iconst (0), 1) := by decide +kernel
theorem d_MD_leastSpeed_14 : decode Y_MD_leastSpeed.2.1 14 = .ok (.goto (4), 3) := by decide +kernel
theorem d_MD_leastSpeed_17 : decode Y_MD_leastSpeed.2.1 17 = .ok (.iconst (1), 1) := by decide +kernel
theorem d_MD_leastSpeed_18 : decode Y_MD_leastSpeed.2.1 18 = .ok (.invokevirtual 127, 3) := by decide +kernel
theorem d_MD_leastSpeed_21 : decode Y_MD_leastSpeed.2.1 21 = .ok (.ifCond .eq (5), 3) := by decide +kernel
theorem d_MD_leastSpeed_24 : decode Y_MD_leastSpeed.2.1 24 = .ok (.iconst (0), 1) := by decide +kernel
theorem d_MD_leastSpeed_25 : decode Y_MD_leastSpeed.2.1 25 = .ok (.ireturn, 1) := by decide +kernel
theorem d_MD_leastSpeed_26 : decode Y_MD_leastSpeed.2.1 26 = .ok (.iconst (1), 1) := by decide +kernel
theorem d_MD_leastSpeed_27 : decode Y_MD_leastSpeed.2.1 27 = .ok (.istore_n 2, 1) := by decide +kernel
theorem d_MD_leastSpeed_28 : decode Y_MD_leastSpeed.2.1 28 = .ok (.iload_n 2, 1) := by decide +kernel
theorem d_MD_leastSpeed_29 : decode Y_MD_leastSpeed.2.1 29 = .ok (.bipush (9), 2) := by decide +kernel
theorem d_MD_leastSpeed_31 : decode Y_MD_leastSpeed.2.1 31 = .ok (.if_icmp .gt (60), 3) := by decide +kernel
theorem d_MD_leastSpeed_34 : decode Y_MD_leastSpeed.2.1 34 = .ok (.aload_n 0, 1) := by decide +kernel
theorem d_MD_leastSpeed_35 : decode Y_MD_leastSpeed.2.1 35 = .ok (.getfield 13, 3) := by decide +kernel
theorem d_MD_leastSpeed_38 : decode Y_MD_leastSpeed.2.1 38 = .ok (.iconst (0), 1) := by decide +kernel
theorem d_MD_leastSpeed_39 : decode Y_MD_leastSpeed.2.1 39 = .ok (.aload_n 0, 1) := by decide +kernel
theorem d_MD_leastSpeed_40 : decode Y_MD_leastSpeed.2.1 40 = .ok (.getfield 16, 3) := by decide +kernel
theorem d_MD_leastSpeed_43 : decode Y_MD_leastSpeed.2.1 43 = .ok (.iconst (0), 1) := by decide +kernel
theorem d_MD_leastSpeed_44 : decode Y_MD_leastSpeed.2.1 44 = .ok (.invokestatic 188, 3) := by decide +kernel
theorem d_MD_leastSpeed_47 : decode Y_MD_leastSpeed.2.1 47 = .ok (.aload_n 0, 1) := by decide +kernel
theorem d_MD_leastSpeed_48 : decode Y_MD_leastSpeed.2.1 48 = .ok (.getfield 16, 3) := by decide +kernel
theorem d_MD_leastSpeed_51 : decode Y_MD_leastSpeed.2.1 51 = .ok (.iconst (0), 1) := by decide +kernel
theorem d_MD_leastSpeed_52 : decode Y_MD_leastSpeed.2.1 52 = .ok (.iload_n 2, 1) := by decide +kernel
theorem d_MD_leastSpeed_53 : decode Y_MD_leastSpeed.2.1 53 = .ok (.invokestatic 175, 3) := by decide +kernel
theorem d_MD_leastSpeed_56 : decode Y_MD_leastSpeed.2.1 56 = .ok (.pop, 1) := by decide +kernel
theorem d_MD_leastSpeed_57 : decode Y_MD_leastSpeed.2.1 57 = .ok (.aload_n 0, 1) := by decide +kernel
theorem d_MD_leastSpeed_58 : decode Y_MD_leastSpeed.2.1 58 = .ok (.getfield 16, 3) := by decide +kernel
theorem d_MD_leastSpeed_61 : decode Y_MD_leastSpeed.2.1 61 = .ok (.iload_n 1, 1) := by decide +kernel
theorem d_MD_leastSpeed_62 : decode Y_MD_leastSpeed.2.1 62 = .ok (.invokestatic 178, 3) := by decide +kernel
theorem d_MD_leastSpeed_65 : decode Y_MD_leastSpeed.2.1 65 = .ok (.pop, 1) := by decide +kernel
theorem d_MD_leastSpeed_66 : decode Y_MD_leastSpeed.2.1 66 = .ok (.aload_n 0, 1) := by decide +kernel
theorem d_MD_leastSpeed_67 : decode Y_MD_leastSpeed.2.1 67 = .ok (.getfield 16, 3) := by decide +kernel
theorem d_MD_leastSpeed_70 : decode Y_MD_leastSpeed.2.1 70 = .ok (.bipush (8), 2) := by decide +kernel
theorem d_MD_leastSpeed_72 : decode Y_MD_leastSpeed.2.1 72 = .ok (.iaload, 1) := by decide +kernel
theorem d_MD_leastSpeed_73 : decode Y_MD_leastSpeed.2.1 73 = .ok (.aload_n 0, 1) := by decide +kernel
theorem d_MD_leastSpeed_74 : decode Y_MD_leastSpeed.2.1 74 = .ok (.getfield 13, 3) := by decide +kernel
theorem d_MD_leastSpeed_77 : decode Y_MD_leastSpeed.2.1 77 = .ok (.bipush (8), 2) := by decide +kernel
theorem d_MD_leastSpeed_79 : decode Y_MD_leastSpeed.2.1 79 = .ok (.iaload, 1) := by decide +kernel
theorem d_MD_leastSpeed_80 : decode Y_MD_leastSpeed.2.1 80 = .ok (.if_icmp .ne (5), 3) := by decide +kernel
theorem d_MD_leastSpeed_83 : decode Y_MD_leastSpeed.2.1 83 = .ok (.iload_n 2, 1) := by decide +kernel
theorem d_MD_leastSpeed_84 : decode Y_MD_leastSpeed.2.1 84 = .ok (.ireturn, 1) := by decide +kernel
theorem d_MD_leastSpeed_85 : decode Y_MD_leastSpeed.2.1 85 = .ok (.iinc 2 (1), 3) := by decide +kernel
theorem d_MD_leastSpeed_88 : decode Y_MD_leastSpeed.2.1 88 = .ok (.goto (-60), 3) := by decide +kernel
theorem d_MD_leastSpeed_91 : decode Y_MD_leastSpeed.2.1 91 = .ok (.iconst (-1), 1) := by decide +kernel
theorem d_MD_leastSpeed_92 : decode Y_MD_leastSpeed.2.1 92 = .ok (.ireturn, 1) := by decide +kernel
def f_MD_leastSpeed (w : zW) (D : zD) (a : Nat) (x1 : Int32) : Option (Int32 × zD) := zjp (fun (s0 : Nat) (s1 : Int32) (D1 : zD) => zobj w 8 s0 (zci (f_MD_refused w D1 s0 s1) (fun v2 D3 => (if v2 = 0 then zjp (zlp (fun (_ : Int32) (_ : zD) => none) (fun (j28 : Int32 → zD → Option (Int32 × zD)) (x2 : Int32) (D4 : zD) => (if (9 : Int32) < x2 then some ((-1 : Int32), D4) else zref w 8 3 a (fun p5 => zref w 8 4 a (fun p6 => zcv (f_MD_copyState w D4 p5 (0 : Int32) p6 (0 : Int32)) (fun D7 => zref w 8 4 a (fun p8 => zci (f_MD_change w D7 p8 (0 : Int32) x2) (fun v9 D10 => zref w 8 4 a (fun p11 => zci (f_MD_ticksOn w D10 p11 x1) (fun v12 D13 => zref w 8 4 a (fun p14 => zald w D13 0 p14 (8 : Int32) (fun v15 => zref w 8 3 a (fun p16 => zald w D13 0 p16 (8 : Int32) (fun v17 => (if v15 = v17 then some (x2, D13) else zlet (x2 + (1 : Int32)) (fun v18 => j28 v18 D13))))))))))))))) zfuel) (fun j28 => j28 (1 : Int32) D3) else some ((0 : Int32), D3))))) (fun j18 => zci (f_MD_in w D x1.toInt64 (1 : Int64) (99 : Int64)) (fun v19 D20 => (if v19 = 0 then j18 a (1 : Int32) D20 else j18 a (0 : Int32) D20)))
set_option maxHeartbeats 4000000 in
set_option maxRecDepth 100000 in
theorem c_MD_leastSpeed (z : zT) (D : zD) (a : Nat) (x1 : Int32) : zM Y_MD_leastSpeed 6 0 0 (zqI z) (f_MD_leastSpeed z.2 D a x1) [.ref a, .int x1] z D := by
  refine zM_of (plainFor_of_name (by decide +kernel)) rfl (Nat.le_of_ble_eq_true rfl) (fun _ _ _ _ h => nomatch h.1) (fun K => ?_)
  unfold f_MD_leastSpeed
  refine z_jp (fun j18 : Nat → Int32 → zD → Option (Int32 × zD) => ∀ (s0 : Nat) (s1 : Int32) (D1 : zD), zGO K Y_MD_leastSpeed 6 0 0 (zqI z) (j18 s0 s1 D1) 0 0 z D1 18 [(0, .ref a), (1, .int x1)] [.int s1, .ref s0]) (fun s0 s1 D1 => ?_) (fun j18 h18 => ?_)
  · refine z_callVi (pc := 18) [.int s1] lkV_MD_127 rfl (c_MD_refused z D1 s0 s1) (by decide) rfl rfl (Nat.le_of_ble_eq_true rfl) d_MD_leastSpeed_18 (fun v2 D3 => ?_)
    refine z_if_eq (pc := 21) (tgt := 26) d_MD_leastSpeed_21 (by decide) ?_ ?_
    · refine z_jp (fun j28 : Int32 → zD → Option (Int32 × zD) => ∀ (x2 : Int32) (D4 : zD), zGO K Y_MD_leastSpeed 6 0 0 (zqI z) (j28 x2 D4) 0 0 z D4 28 [(0, .ref a), (1, .int x1), (2, .int x2)] []) (z_lp (fun j28 : Int32 → zD → Option (Int32 × zD) => ∀ (x2 : Int32) (D4 : zD), zGO K Y_MD_leastSpeed 6 0 0 (zqI z) (j28 x2 D4) 0 0 z D4 28 [(0, .ref a), (1, .int x1), (2, .int x2)] []) (fun _ _ => z_none) (fun j28 h28 x2 D4 => ?_) zfuel) (fun j28 h28 => ?_)
      · refine z_iload_n (pc := 28) d_MD_leastSpeed_28 rfl 2 rfl ?_
        refine z_bipush (pc := 29) d_MD_leastSpeed_29 kb_9 ?_
        refine z_icmp_gt (pc := 31) (tgt := 91) d_MD_leastSpeed_31 (by decide) ?_ ?_
        · refine z_iconst (pc := 91) d_MD_leastSpeed_91 ki_m1 ?_
          exact z_iret (pc := 92) d_MD_leastSpeed_92 rfl
        · refine z_aload_n (pc := 34) d_MD_leastSpeed_34 rfl 0 rfl ?_
          refine z_getR (pc := 35) fl_MD_13 d_MD_leastSpeed_35 (fun p5 => ?_)
          refine z_iconst (pc := 38) d_MD_leastSpeed_38 ki_0 ?_
          refine z_aload_n (pc := 39) d_MD_leastSpeed_39 rfl 0 rfl ?_
          refine z_getR (pc := 40) fl_MD_16 d_MD_leastSpeed_40 (fun p6 => ?_)
          refine z_iconst (pc := 43) d_MD_leastSpeed_43 ki_0 ?_
          refine z_callSv (pc := 44) [.ref p5, .int (0 : Int32), .ref p6, .int (0 : Int32)] lkS_MD_188 (c_MD_copyState z D4 p5 (0 : Int32) p6 (0 : Int32)) (by decide) rfl rfl (Nat.le_of_ble_eq_true rfl) d_MD_leastSpeed_44 (fun D7 => ?_)
          refine z_aload_n (pc := 47) d_MD_leastSpeed_47 rfl 0 rfl ?_
          refine z_getR (pc := 48) fl_MD_16 d_MD_leastSpeed_48 (fun p8 => ?_)
          refine z_iconst (pc := 51) d_MD_leastSpeed_51 ki_0 ?_
          refine z_iload_n (pc := 52) d_MD_leastSpeed_52 rfl 2 rfl ?_
          refine z_callSi (pc := 53) [.ref p8, .int (0 : Int32), .int x2] lkS_MD_175 (c_MD_change z D7 p8 (0 : Int32) x2) (by decide) rfl rfl (Nat.le_of_ble_eq_true rfl) d_MD_leastSpeed_53 (fun v9 D10 => ?_)
          refine z_pop (pc := 56) d_MD_leastSpeed_56 rfl ?_
          refine z_aload_n (pc := 57) d_MD_leastSpeed_57 rfl 0 rfl ?_
          refine z_getR (pc := 58) fl_MD_16 d_MD_leastSpeed_58 (fun p11 => ?_)
          refine z_iload_n (pc := 61) d_MD_leastSpeed_61 rfl 1 rfl ?_
          refine z_callSi (pc := 62) [.ref p11, .int x1] lkS_MD_178 (c_MD_ticksOn z D10 p11 x1) (by decide) rfl rfl (Nat.le_of_ble_eq_true rfl) d_MD_leastSpeed_62 (fun v12 D13 => ?_)
          refine z_pop (pc := 65) d_MD_leastSpeed_65 rfl ?_
          refine z_aload_n (pc := 66) d_MD_leastSpeed_66 rfl 0 rfl ?_
          refine z_getR (pc := 67) fl_MD_16 d_MD_leastSpeed_67 (fun p14 => ?_)
          refine z_bipush (pc := 70) d_MD_leastSpeed_70 kb_8 ?_
          refine z_iaload (pc := 72) d_MD_leastSpeed_72 (fun v15 => ?_)
          refine z_aload_n (pc := 73) d_MD_leastSpeed_73 rfl 0 rfl ?_
          refine z_getR (pc := 74) fl_MD_13 d_MD_leastSpeed_74 (fun p16 => ?_)
          refine z_bipush (pc := 77) d_MD_leastSpeed_77 kb_8 ?_
          refine z_iaload (pc := 79) d_MD_leastSpeed_79 (fun v17 => ?_)
          refine z_icmp_ne (pc := 80) (tgt := 85) d_MD_leastSpeed_80 (by decide) ?_ ?_
          · refine z_iload_n (pc := 83) d_MD_leastSpeed_83 rfl 2 rfl ?_
            exact z_iret (pc := 84) d_MD_leastSpeed_84 rfl
          · refine z_iincL (pc := 85) d_MD_leastSpeed_85 ki_1 2 rfl (by decide) (fun v18 => z_lvc (lv2 := [(2, .int v18), (0, .ref a), (1, .int x1)]) rfl ?_)
            refine z_goto (pc := 88) (tgt := 28) d_MD_leastSpeed_88 (by decide) ?_
            exact z_sub [1, 2, 0] rfl (h28 v18 D13)
      · refine z_iconst (pc := 26) d_MD_leastSpeed_26 ki_1 ?_
        refine z_istore_n (pc := 27) d_MD_leastSpeed_27 rfl (by decide) (lv' := [(2, .int (1 : Int32)), (0, .ref a), (1, .int x1)]) rfl ?_
        exact z_sub [1, 2, 0] rfl (h28 (1 : Int32) D3)
    · refine z_iconst (pc := 24) d_MD_leastSpeed_24 ki_0 ?_
      exact z_iret (pc := 25) d_MD_leastSpeed_25 rfl
  · refine z_aload_n (pc := 0) d_MD_leastSpeed_0 rfl 0 rfl ?_
    refine z_iload_n (pc := 1) d_MD_leastSpeed_1 rfl 1 rfl ?_
    refine z_i2l (pc := 2) d_MD_leastSpeed_2 ?_
    refine z_lconst (pc := 3) d_MD_leastSpeed_3 (v := 1) rfl ?_
    refine z_ldc2 (pc := 4) w_k_MD_43 d_MD_leastSpeed_4 ?_
    refine z_callSi (pc := 7) [.long x1.toInt64, .long (1 : Int64), .long (99 : Int64)] lkS_MD_37 (c_MD_in z D x1.toInt64 (1 : Int64) (99 : Int64)) (by decide) rfl rfl (Nat.le_of_ble_eq_true rfl) d_MD_leastSpeed_7 (fun v19 D20 => ?_)
    refine z_if_eq (pc := 10) (tgt := 17) d_MD_leastSpeed_10 (by decide) ?_ ?_
    · refine z_iconst (pc := 17) d_MD_leastSpeed_17 ki_1 ?_
      exact z_sub [0, 1] rfl (h18 a (1 : Int32) D20)
    · refine z_iconst (pc := 13) d_MD_leastSpeed_13 ki_0 ?_
      refine z_goto (pc := 14) (tgt := 18) d_MD_leastSpeed_14 (by decide) ?_
      exact z_sub [0, 1] rfl (h18 a (0 : Int32) D20)
theorem d_MD_command_0 : decode Y_MD_command.2.1 0 = .ok (.iload_n 2, 1) := by decide +kernel
theorem d_MD_command_1 : decode Y_MD_command.2.1 1 = .ok (.sipush (1000), 3) := by decide +kernel
theorem d_MD_command_4 : decode Y_MD_command.2.1 4 = .ok (.idiv, 1) := by decide +kernel
theorem d_MD_command_5 : decode Y_MD_command.2.1 5 = .ok (.istore_n 3, 1) := by decide +kernel
theorem d_MD_command_6 : decode Y_MD_command.2.1 6 = .ok (.iload_n 2, 1) := by decide +kernel
theorem d_MD_command_7 : decode Y_MD_command.2.1 7 = .ok (.bipush (100), 2) := by decide +kernel
theorem d_MD_command_9 : decode Y_MD_command.2.1 9 = .ok (.idiv, 1) := by decide +kernel
theorem d_MD_command_10 : decode Y_MD_command.2.1 10 = .ok (.bipush (10), 2) := by decide +kernel
theorem d_MD_command_12 : decode Y_MD_command.2.1 12 = .ok (.irem, 1) := by decide +kernel
theorem d_MD_command_13 : decode Y_MD_command.2.1 13 = .ok (.istore 4, 2) := by decide +kernel
theorem d_MD_command_15 : decode Y_MD_command.2.1 15 = .ok (.iload_n 2, 1) := by decide +kernel
theorem d_MD_command_16 : decode Y_MD_command.2.1 16 = .ok (.bipush (10), 2) := by decide +kernel
theorem d_MD_command_18 : decode Y_MD_command.2.1 18 = .ok (.idiv, 1) := by decide +kernel
theorem d_MD_command_19 : decode Y_MD_command.2.1 19 = .ok (.bipush (10), 2) := by decide +kernel
theorem d_MD_command_21 : decode Y_MD_command.2.1 21 = .ok (.irem, 1) := by decide +kernel
theorem d_MD_command_22 : decode Y_MD_command.2.1 22 = .ok (.istore 5, 2) := by decide +kernel
theorem d_MD_command_24 : decode Y_MD_command.2.1 24 = .ok (.iload_n 2, 1) := by decide +kernel
theorem d_MD_command_25 : decode Y_MD_command.2.1 25 = .ok (.bipush (10), 2) := by decide +kernel
theorem d_MD_command_27 : decode Y_MD_command.2.1 27 = .ok (.irem, 1) := by decide +kernel
theorem d_MD_command_28 : decode Y_MD_command.2.1 28 = .ok (.istore 6, 2) := by decide +kernel
theorem d_MD_command_30 : decode Y_MD_command.2.1 30 = .ok (.iload_n 2, 1) := by decide +kernel
theorem d_MD_command_31 : decode Y_MD_command.2.1 31 = .ok (.bipush (100), 2) := by decide +kernel
theorem d_MD_command_33 : decode Y_MD_command.2.1 33 = .ok (.irem, 1) := by decide +kernel
theorem d_MD_command_34 : decode Y_MD_command.2.1 34 = .ok (.istore 7, 2) := by decide +kernel
theorem d_MD_command_36 : decode Y_MD_command.2.1 36 = .ok (.iload_n 1, 1) := by decide +kernel
theorem d_MD_command_37 : decode Y_MD_command.2.1 37 = .ok (.tableswitch (413) 1 9 #[(51), (80), (128), (185), (218), (269), (291), (327), (364)], 51) := by decide +kernel
theorem d_MD_command_88 : decode Y_MD_command.2.1 88 = .ok (.iload_n 2, 1) := by decide +kernel
theorem d_MD_command_89 : decode Y_MD_command.2.1 89 = .ok (.i2l, 1) := by decide +kernel
theorem d_MD_command_90 : decode Y_MD_command.2.1 90 = .ok (.lconst 1, 1) := by decide +kernel
theorem d_MD_command_91 : decode Y_MD_command.2.1 91 = .ok (.ldc2_w 43, 3) := by decide +kernel
theorem d_MD_command_94 : decode Y_MD_command.2.1 94 = .ok (.invokestatic 37, 3) := by decide +kernel
theorem d_MD_command_97 : decode Y_MD_command.2.1 97 = .ok (.ifCond .eq (18), 3) := by decide +kernel
theorem d_MD_command_100 : decode Y_MD_command.2.1 100 = .ok (.aload_n 0, 1) := by decide +kernel
theorem d_MD_command_101 : decode Y_MD_command.2.1 101 = .ok (.getfield 16, 3) := by decide +kernel
theorem d_MD_command_104 : decode Y_MD_command.2.1 104 = .ok (.iload_n 2, 1) := by decide +kernel
theorem d_MD_command_105 : decode Y_MD_command.2.1 105 = .ok (.invokestatic 178, 3) := by decide +kernel
theorem d_MD_command_108 : decode Y_MD_command.2.1 108 = .ok (.ifCond .lt (7), 3) := by decide +kernel
theorem d_MD_command_111 : decode Y_MD_command.2.1 111 = .ok (.iconst (1), 1) := by decide +kernel
theorem d_MD_command_112 : decode Y_MD_command.2.1 112 = .ok (.goto (4), 3) := by decide +kernel
theorem d_MD_command_115 : decode Y_MD_command.2.1 115 = .ok (.iconst (0), 1) := by decide +kernel
theorem d_MD_command_116 : decode Y_MD_command.2.1 116 = .ok (.ireturn, 1) := by decide +kernel
theorem d_MD_command_117 : decode Y_MD_command.2.1 117 = .ok (.iload_n 2, 1) := by decide +kernel
theorem d_MD_command_118 : decode Y_MD_command.2.1 118 = .ok (.sipush (1000), 3) := by decide +kernel
theorem d_MD_command_121 : decode Y_MD_command.2.1 121 = .ok (.irem, 1) := by decide +kernel
theorem d_MD_command_122 : decode Y_MD_command.2.1 122 = .ok (.iconst (2), 1) := by decide +kernel
theorem d_MD_command_123 : decode Y_MD_command.2.1 123 = .ok (.if_icmp .ge (40), 3) := by decide +kernel
theorem d_MD_command_126 : decode Y_MD_command.2.1 126 = .ok (.aload_n 0, 1) := by decide +kernel
theorem d_MD_command_127 : decode Y_MD_command.2.1 127 = .ok (.getfield 16, 3) := by decide +kernel
theorem d_MD_command_130 : decode Y_MD_command.2.1 130 = .ok (.iload_n 3, 1) := by decide +kernel
theorem d_MD_command_131 : decode Y_MD_command.2.1 131 = .ok (.invokestatic 168, 3) := by decide +kernel
theorem d_MD_command_134 : decode Y_MD_command.2.1 134 = .ok (.ifCond .eq (29), 3) := by decide +kernel
theorem d_MD_command_137 : decode Y_MD_command.2.1 137 = .ok (.aload_n 0, 1) := by decide +kernel
theorem d_MD_command_138 : decode Y_MD_command.2.1 138 = .ok (.getfield 16, 3) := by decide +kernel
theorem d_MD_command_141 : decode Y_MD_command.2.1 141 = .ok (.iload_n 3, 1) := by decide +kernel
theorem d_MD_command_142 : decode Y_MD_command.2.1 142 = .ok (.iload 6, 2) := by decide +kernel
theorem d_MD_command_144 : decode Y_MD_command.2.1 144 = .ok (.iconst (1), 1) := by decide +kernel
theorem d_MD_command_145 : decode Y_MD_command.2.1 145 = .ok (.if_icmp .ne (7), 3) := by decide +kernel
theorem d_MD_command_148 : decode Y_MD_command.2.1 148 = .ok (.iconst (1), 1) := by decide +kernel
theorem d_MD_command_149 : decode Y_MD_command.2.1 149 = .ok (.goto (4), 3) := by decide +kernel
theorem d_MD_command_152 : decode Y_MD_command.2.1 152 = .ok (.iconst (0), 1) := by decide +kernel
theorem d_MD_command_153 : decode Y_MD_command.2.1 153 = .ok (.invokestatic 171, 3) := by decide +kernel
theorem d_MD_command_156 : decode Y_MD_command.2.1 156 = .ok (.ifCond .lt (7), 3) := by decide +kernel
theorem d_MD_command_159 : decode Y_MD_command.2.1 159 = .ok (.iconst (1), 1) := by decide +kernel
theorem d_MD_command_160 : decode Y_MD_command.2.1 160 = .ok (.goto (4), 3) := by decide +kernel
theorem d_MD_command_163 : decode Y_MD_command.2.1 163 = .ok (.iconst (0), 1) := by decide +kernel
theorem d_MD_command_164 : decode Y_MD_command.2.1 164 = .ok (.ireturn, 1) := by decide +kernel
theorem d_MD_command_165 : decode Y_MD_command.2.1 165 = .ok (.iload 6, 2) := by decide +kernel
theorem d_MD_command_167 : decode Y_MD_command.2.1 167 = .ok (.ifCond .ne (53), 3) := by decide +kernel
theorem d_MD_command_170 : decode Y_MD_command.2.1 170 = .ok (.aload_n 0, 1) := by decide +kernel
theorem d_MD_command_171 : decode Y_MD_command.2.1 171 = .ok (.getfield 16, 3) := by decide +kernel
theorem d_MD_command_174 : decode Y_MD_command.2.1 174 = .ok (.iload_n 3, 1) := by decide +kernel
theorem d_MD_command_175 : decode Y_MD_command.2.1 175 = .ok (.invokestatic 195, 3) := by decide +kernel
theorem d_MD_command_178 : decode Y_MD_command.2.1 178 = .ok (.ifCond .eq (42), 3) := by decide +kernel
theorem d_MD_command_181 : decode Y_MD_command.2.1 181 = .ok (.iload 4, 2) := by decide +kernel
theorem d_MD_command_183 : decode Y_MD_command.2.1 183 = .ok (.iconst (2), 1) := by decide +kernel
theorem d_MD_command_184 : decode Y_MD_command.2.1 184 = .ok (.isub, 1) := by decide +kernel
theorem d_MD_command_185 : decode Y_MD_command.2.1 185 = .ok (.iload 5, 2) := by decide +kernel
theorem d_MD_command_187 : decode Y_MD_command.2.1 187 = .ok (.iconst (2), 1) := by decide +kernel
theorem d_MD_command_188 : decode Y_MD_command.2.1 188 = .ok (.isub, 1) := by decide +kernel
theorem d_MD_command_189 : decode Y_MD_command.2.1 189 = .ok (.invokestatic 222, 3) := by decide +kernel
theorem d_MD_command_192 : decode Y_MD_command.2.1 192 = .ok (.ifCond .eq (28), 3) := by decide +kernel
theorem d_MD_command_195 : decode Y_MD_command.2.1 195 = .ok (.aload_n 0, 1) := by decide +kernel
theorem d_MD_command_196 : decode Y_MD_command.2.1 196 = .ok (.getfield 16, 3) := by decide +kernel
theorem d_MD_command_199 : decode Y_MD_command.2.1 199 = .ok (.iload_n 3, 1) := by decide +kernel
theorem d_MD_command_200 : decode Y_MD_command.2.1 200 = .ok (.iload 4, 2) := by decide +kernel
theorem d_MD_command_202 : decode Y_MD_command.2.1 202 = .ok (.iconst (2), 1) := by decide +kernel
theorem d_MD_command_203 : decode Y_MD_command.2.1 203 = .ok (.isub, 1) := by decide +kernel
theorem d_MD_command_204 : decode Y_MD_command.2.1 204 = .ok (.iload 5, 2) := by decide +kernel
theorem d_MD_command_206 : decode Y_MD_command.2.1 206 = .ok (.iconst (2), 1) := by decide +kernel
theorem d_MD_command_207 : decode Y_MD_command.2.1 207 = .ok (.isub, 1) := by decide +kernel
theorem d_MD_command_208 : decode Y_MD_command.2.1 208 = .ok (.invokestatic 225, 3) := by decide +kernel
theorem d_MD_command_211 : decode Y_MD_command.2.1 211 = .ok (.bipush (-40), 2) := by decide +kernel
theorem d_MD_command_213 : decode Y_MD_command.2.1 213 = .ok (.if_icmp .lt (7), 3) := by decide +kernel
theorem d_MD_command_216 : decode Y_MD_command.2.1 216 = .ok (.iconst (1), 1) := by decide +kernel
theorem d_MD_command_217 : decode Y_MD_command.2.1 217 = .ok (.goto (4), 3) := by decide +kernel
theorem d_MD_command_220 : decode Y_MD_command.2.1 220 = .ok (.iconst (0), 1) := by decide +kernel
theorem d_MD_command_221 : decode Y_MD_command.2.1 221 = .ok (.ireturn, 1) := by decide +kernel
theorem d_MD_command_222 : decode Y_MD_command.2.1 222 = .ok (.iload 4, 2) := by decide +kernel
theorem d_MD_command_224 : decode Y_MD_command.2.1 224 = .ok (.ifCond .ne (29), 3) := by decide +kernel
theorem d_MD_command_227 : decode Y_MD_command.2.1 227 = .ok (.iload_n 3, 1) := by decide +kernel
theorem d_MD_command_228 : decode Y_MD_command.2.1 228 = .ok (.iload 7, 2) := by decide +kernel
theorem d_MD_command_230 : decode Y_MD_command.2.1 230 = .ok (.invokestatic 229, 3) := by decide +kernel
theorem d_MD_command_233 : decode Y_MD_command.2.1 233 = .ok (.ifCond .eq (20), 3) := by decide +kernel
theorem d_MD_command_236 : decode Y_MD_command.2.1 236 = .ok (.aload_n 0, 1) := by decide +kernel
theorem d_MD_command_237 : decode Y_MD_command.2.1 237 = .ok (.getfield 16, 3) := by decide +kernel
theorem d_MD_command_240 : decode Y_MD_command.2.1 240 = .ok (.iload_n 3, 1) := by decide +kernel
theorem d_MD_command_241 : decode Y_MD_command.2.1 241 = .ok (.iload 7, 2) := by decide +kernel
theorem d_MD_command_243 : decode Y_MD_command.2.1 243 = .ok (.invokestatic 175, 3) := by decide +kernel
theorem d_MD_command_246 : decode Y_MD_command.2.1 246 = .ok (.ifCond .lt (7), 3) := by decide +kernel
theorem d_MD_command_249 : decode Y_MD_command.2.1 249 = .ok (.iconst (1), 1) := by decide +kernel
theorem d_MD_command_250 : decode Y_MD_command.2.1 250 = .ok (.goto (4), 3) := by decide +kernel
theorem d_MD_command_253 : decode Y_MD_command.2.1 253 = .ok (.iconst (0), 1) := by decide +kernel
theorem d_MD_command_254 : decode Y_MD_command.2.1 254 = .ok (.ireturn, 1) := by decide +kernel
theorem d_MD_command_255 : decode Y_MD_command.2.1 255 = .ok (.aload_n 0, 1) := by decide +kernel
theorem d_MD_command_256 : decode Y_MD_command.2.1 256 = .ok (.getfield 16, 3) := by decide +kernel
theorem d_MD_command_259 : decode Y_MD_command.2.1 259 = .ok (.iload_n 3, 1) := by decide +kernel
theorem d_MD_command_260 : decode Y_MD_command.2.1 260 = .ok (.invokestatic 195, 3) := by decide +kernel
theorem d_MD_command_263 : decode Y_MD_command.2.1 263 = .ok (.ifCond .eq (41), 3) := by decide +kernel
theorem d_MD_command_266 : decode Y_MD_command.2.1 266 = .ok (.aload_n 0, 1) := by decide +kernel
theorem d_MD_command_267 : decode Y_MD_command.2.1 267 = .ok (.getfield 16, 3) := by decide +kernel
theorem d_MD_command_270 : decode Y_MD_command.2.1 270 = .ok (.iload 4, 2) := by decide +kernel
theorem d_MD_command_272 : decode Y_MD_command.2.1 272 = .ok (.invokestatic 168, 3) := by decide +kernel
theorem d_MD_command_275 : decode Y_MD_command.2.1 275 = .ok (.ifCond .eq (29), 3) := by decide +kernel
theorem d_MD_command_278 : decode Y_MD_command.2.1 278 = .ok (.aload_n 0, 1) := by decide +kernel
theorem d_MD_command_279 : decode Y_MD_command.2.1 279 = .ok (.getfield 16, 3) := by decide +kernel
theorem d_MD_command_282 : decode Y_MD_command.2.1 282 = .ok (.bipush (65), 2) := by decide +kernel
theorem d_MD_command_284 : decode Y_MD_command.2.1 284 = .ok (.bipush (6), 2) := by decide +kernel
theorem d_MD_command_286 : decode Y_MD_command.2.1 286 = .ok (.iconst (4), 1) := by decide +kernel
theorem d_MD_command_287 : decode Y_MD_command.2.1 287 = .ok (.iload_n 3, 1) := by decide +kernel
theorem d_MD_command_288 : decode Y_MD_command.2.1 288 = .ok (.imul, 1) := by decide +kernel
theorem d_MD_command_289 : decode Y_MD_command.2.1 289 = .ok (.iload 4, 2) := by decide +kernel
theorem d_MD_command_291 : decode Y_MD_command.2.1 291 = .ok (.iadd, 1) := by decide +kernel
theorem d_MD_command_292 : decode Y_MD_command.2.1 292 = .ok (.imul, 1) := by decide +kernel
theorem d_MD_command_293 : decode Y_MD_command.2.1 293 = .ok (.iadd, 1) := by decide +kernel
theorem d_MD_command_294 : decode Y_MD_command.2.1 294 = .ok (.iaload, 1) := by decide +kernel
theorem d_MD_command_295 : decode Y_MD_command.2.1 295 = .ok (.iload 7, 2) := by decide +kernel
theorem d_MD_command_297 : decode Y_MD_command.2.1 297 = .ok (.if_icmp .lt (7), 3) := by decide +kernel
theorem d_MD_command_300 : decode Y_MD_command.2.1 300 = .ok (.iconst (1), 1) := by decide +kernel
theorem d_MD_command_301 : decode Y_MD_command.2.1 301 = .ok (.goto (4), 3) := by decide +kernel
theorem d_MD_command_304 : decode Y_MD_command.2.1 304 = .ok (.iconst (0), 1) := by decide +kernel
theorem d_MD_command_305 : decode Y_MD_command.2.1 305 = .ok (.ireturn, 1) := by decide +kernel
theorem d_MD_command_306 : decode Y_MD_command.2.1 306 = .ok (.iload_n 2, 1) := by decide +kernel
theorem d_MD_command_307 : decode Y_MD_command.2.1 307 = .ok (.bipush (100), 2) := by decide +kernel
theorem d_MD_command_309 : decode Y_MD_command.2.1 309 = .ok (.if_icmp .ge (17), 3) := by decide +kernel
theorem d_MD_command_312 : decode Y_MD_command.2.1 312 = .ok (.aload_n 0, 1) := by decide +kernel
theorem d_MD_command_313 : decode Y_MD_command.2.1 313 = .ok (.getfield 16, 3) := by decide +kernel
theorem d_MD_command_316 : decode Y_MD_command.2.1 316 = .ok (.iconst (4), 1) := by decide +kernel
theorem d_MD_command_317 : decode Y_MD_command.2.1 317 = .ok (.iaload, 1) := by decide +kernel
theorem d_MD_command_318 : decode Y_MD_command.2.1 318 = .ok (.iload_n 2, 1) := by decide +kernel
theorem d_MD_command_319 : decode Y_MD_command.2.1 319 = .ok (.if_icmp .gt (7), 3) := by decide +kernel
theorem d_MD_command_322 : decode Y_MD_command.2.1 322 = .ok (.iconst (1), 1) := by decide +kernel
theorem d_MD_command_323 : decode Y_MD_command.2.1 323 = .ok (.goto (4), 3) := by decide +kernel
theorem d_MD_command_326 : decode Y_MD_command.2.1 326 = .ok (.iconst (0), 1) := by decide +kernel
theorem d_MD_command_327 : decode Y_MD_command.2.1 327 = .ok (.ireturn, 1) := by decide +kernel
theorem d_MD_command_328 : decode Y_MD_command.2.1 328 = .ok (.iload 4, 2) := by decide +kernel
theorem d_MD_command_330 : decode Y_MD_command.2.1 330 = .ok (.ifCond .ne (32), 3) := by decide +kernel
theorem d_MD_command_333 : decode Y_MD_command.2.1 333 = .ok (.aload_n 0, 1) := by decide +kernel
theorem d_MD_command_334 : decode Y_MD_command.2.1 334 = .ok (.getfield 16, 3) := by decide +kernel
theorem d_MD_command_337 : decode Y_MD_command.2.1 337 = .ok (.iload_n 3, 1) := by decide +kernel
theorem d_MD_command_338 : decode Y_MD_command.2.1 338 = .ok (.invokestatic 195, 3) := by decide +kernel
theorem d_MD_command_341 : decode Y_MD_command.2.1 341 = .ok (.ifCond .eq (21), 3) := by decide +kernel
theorem d_MD_command_344 : decode Y_MD_command.2.1 344 = .ok (.aload_n 0, 1) := by decide +kernel
theorem d_MD_command_345 : decode Y_MD_command.2.1 345 = .ok (.getfield 16, 3) := by decide +kernel
theorem d_MD_command_348 : decode Y_MD_command.2.1 348 = .ok (.iload_n 3, 1) := by decide +kernel
theorem d_MD_command_349 : decode Y_MD_command.2.1 349 = .ok (.iconst (4), 1) := by decide +kernel
theorem d_MD_command_350 : decode Y_MD_command.2.1 350 = .ok (.invokestatic 70, 3) := by decide +kernel
theorem d_MD_command_353 : decode Y_MD_command.2.1 353 = .ok (.iload 7, 2) := by decide +kernel
theorem d_MD_command_355 : decode Y_MD_command.2.1 355 = .ok (.if_icmp .lt (7), 3) := by decide +kernel
theorem d_MD_command_358 : decode Y_MD_command.2.1 358 = .ok (.iconst (1), 1) := by decide +kernel
theorem d_MD_command_359 : decode Y_MD_command.2.1 359 = .ok (.goto (4), 3) := by decide +kernel
theorem d_MD_command_362 : decode Y_MD_command.2.1 362 = .ok (.iconst (0), 1) := by decide +kernel
theorem d_MD_command_363 : decode Y_MD_command.2.1 363 = .ok (.ireturn, 1) := by decide +kernel
theorem d_MD_command_364 : decode Y_MD_command.2.1 364 = .ok (.iload 4, 2) := by decide +kernel
theorem d_MD_command_366 : decode Y_MD_command.2.1 366 = .ok (.ifCond .ne (33), 3) := by decide +kernel
theorem d_MD_command_369 : decode Y_MD_command.2.1 369 = .ok (.aload_n 0, 1) := by decide +kernel
theorem d_MD_command_370 : decode Y_MD_command.2.1 370 = .ok (.getfield 16, 3) := by decide +kernel
theorem d_MD_command_373 : decode Y_MD_command.2.1 373 = .ok (.iload_n 3, 1) := by decide +kernel
theorem d_MD_command_374 : decode Y_MD_command.2.1 374 = .ok (.invokestatic 168, 3) := by decide +kernel
theorem d_MD_command_377 : decode Y_MD_command.2.1 377 = .ok (.ifCond .eq (22), 3) := by decide +kernel
theorem d_MD_command_380 : decode Y_MD_command.2.1 380 = .ok (.aload_n 0, 1) := by decide +kernel
theorem d_MD_command_381 : decode Y_MD_command.2.1 381 = .ok (.getfield 16, 3) := by decide +kernel
theorem d_MD_command_384 : decode Y_MD_command.2.1 384 = .ok (.iload_n 3, 1) := by decide +kernel
theorem d_MD_command_385 : decode Y_MD_command.2.1 385 = .ok (.bipush (6), 2) := by decide +kernel
theorem d_MD_command_387 : decode Y_MD_command.2.1 387 = .ok (.invokestatic 45, 3) := by decide +kernel
theorem d_MD_command_390 : decode Y_MD_command.2.1 390 = .ok (.iload 7, 2) := by decide +kernel
theorem d_MD_command_392 : decode Y_MD_command.2.1 392 = .ok (.if_icmp .ne (7), 3) := by decide +kernel
theorem d_MD_command_395 : decode Y_MD_command.2.1 395 = .ok (.iconst (1), 1) := by decide +kernel
theorem d_MD_command_396 : decode Y_MD_command.2.1 396 = .ok (.goto (4), 3) := by decide +kernel
theorem d_MD_command_399 : decode Y_MD_command.2.1 399 = .ok (.iconst (0), 1) := by decide +kernel
theorem d_MD_command_400 : decode Y_MD_command.2.1 400 = .ok (.ireturn, 1) := by decide +kernel
theorem d_MD_command_401 : decode Y_MD_command.2.1 401 = .ok (.iload 5, 2) := by decide +kernel
theorem d_MD_command_403 : decode Y_MD_command.2.1 403 = .ok (.ifCond .ne (45), 3) := by decide +kernel
theorem d_MD_command_406 : decode Y_MD_command.2.1 406 = .ok (.aload_n 0, 1) := by decide +kernel
theorem d_MD_command_407 : decode Y_MD_command.2.1 407 = .ok (.getfield 16, 3) := by decide +kernel
theorem d_MD_command_410 : decode Y_MD_command.2.1 410 = .ok (.iload_n 3, 1) := by decide +kernel
theorem d_MD_command_411 : decode Y_MD_command.2.1 411 = .ok (.invokestatic 195, 3) := by decide +kernel
theorem d_MD_command_414 : decode Y_MD_command.2.1 414 = .ok (.ifCond .eq (34), 3) := by decide +kernel
theorem d_MD_command_417 : decode Y_MD_command.2.1 417 = .ok (.aload_n 0, 1) := by decide +kernel
theorem d_MD_command_418 : decode Y_MD_command.2.1 418 = .ok (.getfield 16, 3) := by decide +kernel
theorem d_MD_command_421 : decode Y_MD_command.2.1 421 = .ok (.iload 4, 2) := by decide +kernel
theorem d_MD_command_423 : decode Y_MD_command.2.1 423 = .ok (.invokestatic 168, 3) := by decide +kernel
theorem d_MD_command_426 : decode Y_MD_command.2.1 426 = .ok (.ifCond .eq (22), 3) := by decide +kernel
theorem d_MD_command_429 : decode Y_MD_command.2.1 429 = .ok (.aload_n 0, 1) := by decide +kernel
theorem d_MD_command_430 : decode Y_MD_command.2.1 430 = .ok (.getfield 16, 3) := by decide +kernel
theorem d_MD_command_433 : decode Y_MD_command.2.1 433 = .ok (.iload_n 3, 1) := by decide +kernel
theorem d_MD_command_434 : decode Y_MD_command.2.1 434 = .ok (.iload 4, 2) := by decide +kernel
theorem d_MD_command_436 : decode Y_MD_command.2.1 436 = .ok (.invokestatic 203, 3) := by decide +kernel
theorem d_MD_command_439 : decode Y_MD_command.2.1 439 = .ok (.iload 6, 2) := by decide +kernel
theorem d_MD_command_441 : decode Y_MD_command.2.1 441 = .ok (.if_icmp .ne (7), 3) := by decide +kernel
theorem d_MD_command_444 : decode Y_MD_command.2.1 444 = .ok (.iconst (1), 1) := by decide +kernel
theorem d_MD_command_445 : decode Y_MD_command.2.1 445 = .ok (.goto (4), 3) := by decide +kernel
theorem d_MD_command_448 : decode Y_MD_command.2.1 448 = .ok (.iconst (0), 1) := by decide +kernel
theorem d_MD_command_449 : decode Y_MD_command.2.1 449 = .ok (.ireturn, 1) := by decide +kernel
theorem d_MD_command_450 : decode Y_MD_command.2.1 450 = .ok (.iconst (0), 1) := by decide +kernel
theorem d_MD_command_451 : decode Y_MD_command.2.1 451 = .ok (.ireturn, 1) := by decide +kernel
def f_MD_command (w : zW) (D : zD) (a : Nat) (x1 : Int32) (x2 : Int32) : Option (Int32 × zD) := zlet (x2 / (1000 : Int32)) (fun v1 => zlet (zirem (x2 / (100 : Int32)) (10 : Int32)) (fun v2 => zlet (zirem (x2 / (10 : Int32)) (10 : Int32)) (fun v3 => zlet (zirem x2 (10 : Int32)) (fun v4 => zlet (zirem x2 (100 : Int32)) (fun v5 => (if x1 = (1 : Int32) then zjp (fun (s0 : Int32) (D6 : zD) => zchk (s0 = 0 ∨ s0 = 1) (some (s0, D6))) (fun j116 => zjp (fun (D7 : zD) => j116 (0 : Int32) D7) (fun j115 => zci (f_MD_in w D x2.toInt64 (1 : Int64) (99 : Int64)) (fun v8 D9 => (if v8 = 0 then j115 D9 else zref w 8 4 a (fun p10 => zci (f_MD_ticksOn w D9 p10 x2) (fun v11 D12 => (if v11 < 0 then j115 D12 else j116 (1 : Int32) D12))))))) else (if x1 = (2 : Int32) then zjp (fun (s0 : Int32) (D13 : zD) => zchk (s0 = 0 ∨ s0 = 1) (some (s0, D13))) (fun j164 => zjp (fun (D14 : zD) => j164 (0 : Int32) D14) (fun j163 => (if (2 : Int32) ≤ (zirem x2 (1000 : Int32)) then j163 D else zref w 8 4 a (fun p15 => zci (f_MD_isSiren w D p15 v1) (fun v16 D17 => (if v16 = 0 then j163 D17 else zjp (fun (s0 : Nat) (s1 : Int32) (s2 : Int32) (D18 : zD) => zci (f_MD_turnOn w D18 s0 s1 s2) (fun v19 D20 => (if v19 < 0 then j163 D20 else j164 (1 : Int32) D20))) (fun j153 => zref w 8 4 a (fun p21 => (if v4 = (1 : Int32) then j153 p21 v1 (1 : Int32) D17 else j153 p21 v1 (0 : Int32) D17))))))))) else (if x1 = (3 : Int32) then zjp (fun (s0 : Int32) (D22 : zD) => zchk (s0 = 0 ∨ s0 = 1) (some (s0, D22))) (fun j221 => zjp (fun (D23 : zD) => j221 (0 : Int32) D23) (fun j220 => (if v4 = 0 then zref w 8 4 a (fun p24 => zci (f_MD_isHearer w D p24 v1) (fun v25 D26 => (if v25 = 0 then j220 D26 else zci (f_MD_isWay w D26 (v2 - (2 : Int32)) (v3 - (2 : Int32))) (fun v27 D28 => (if v27 = 0 then j220 D28 else zref w 8 4 a (fun p29 => zci (f_MD_walkOn w D28 p29 v1 (v2 - (2 : Int32)) (v3 - (2 : Int32))) (fun v30 D31 => (if v30 < (-40 : Int32) then j220 D31 else j221 (1 : Int32) D31)))))))) else j220 D))) else (if x1 = (4 : Int32) then zjp (fun (s0 : Int32) (D32 : zD) => zchk (s0 = 0 ∨ s0 = 1) (some (s0, D32))) (fun j254 => zjp (fun (D33 : zD) => j254 (0 : Int32) D33) (fun j253 => (if v2 = 0 then zci (f_MD_isSetting w D v1 v5) (fun v34 D35 => (if v34 = 0 then j253 D35 else zref w 8 4 a (fun p36 => zci (f_MD_change w D35 p36 v1 v5) (fun v37 D38 => (if v37 < 0 then j253 D38 else j254 (1 : Int32) D38))))) else j253 D))) else (if x1 = (5 : Int32) then zjp (fun (s0 : Int32) (D39 : zD) => zchk (s0 = 0 ∨ s0 = 1) (some (s0, D39))) (fun j305 => zjp (fun (D40 : zD) => j305 (0 : Int32) D40) (fun j304 => zref w 8 4 a (fun p41 => zci (f_MD_isHearer w D p41 v1) (fun v42 D43 => (if v42 = 0 then j304 D43 else zref w 8 4 a (fun p44 => zci (f_MD_isSiren w D43 p44 v2) (fun v45 D46 => (if v45 = 0 then j304 D46 else zref w 8 4 a (fun p47 => zald w D46 0 p47 ((65 : Int32) + ((6 : Int32) * (((4 : Int32) * v1) + v2))) (fun v48 => (if v48 < v5 then j304 D46 else j305 (1 : Int32) D46))))))))))) else (if x1 = (6 : Int32) then zjp (fun (s0 : Int32) (D49 : zD) => zchk (s0 = 0 ∨ s0 = 1) (some (s0, D49))) (fun j327 => zjp (fun (D50 : zD) => j327 (0 : Int32) D50) (fun j326 => (if (100 : Int32) ≤ x2 then j326 D else zref w 8 4 a (fun p51 => zald w D 0 p51 (4 : Int32) (fun v52 => (if x2 < v52 then j326 D else j327 (1 : Int32) D)))))) else (if x1 = (7 : Int32) then zjp (fun (s0 : Int32) (D53 : zD) => zchk (s0 = 0 ∨ s0 = 1) (some (s0, D53))) (fun j363 => zjp (fun (D54 : zD) => j363 (0 : Int32) D54) (fun j362 => (if v2 = 0 then zref w 8 4 a (fun p55 => zci (f_MD_isHearer w D p55 v1) (fun v56 D57 => (if v56 = 0 then j362 D57 else zref w 8 4 a (fun p58 => zci (f_MD_ofHearer w D57 p58 v1 (4 : Int32)) (fun v59 D60 => (if v59 < v5 then j362 D60 else j363 (1 : Int32) D60)))))) else j362 D))) else (if x1 = (8 : Int32) then zjp (fun (s0 : Int32) (D61 : zD) => zchk (s0 = 0 ∨ s0 = 1) (some (s0, D61))) (fun j400 => zjp (fun (D62 : zD) => j400 (0 : Int32) D62) (fun j399 => (if v2 = 0 then zref w 8 4 a (fun p63 => zci (f_MD_isSiren w D p63 v1) (fun v64 D65 => (if v64 = 0 then j399 D65 else zref w 8 4 a (fun p66 => zci (f_MD_ofSiren w D65 p66 v1 (6 : Int32)) (fun v67 D68 => (if v67 = v5 then j400 (1 : Int32) D68 else j399 D68)))))) else j399 D))) else (if x1 = (9 : Int32) then zjp (fun (s0 : Int32) (D69 : zD) => zchk (s0 = 0 ∨ s0 = 1) (some (s0, D69))) (fun j449 => zjp (fun (D70 : zD) => j449 (0 : Int32) D70) (fun j448 => (if v3 = 0 then zref w 8 4 a (fun p71 => zci (f_MD_isHearer w D p71 v1) (fun v72 D73 => (if v72 = 0 then j448 D73 else zref w 8 4 a (fun p74 => zci (f_MD_isSiren w D73 p74 v2) (fun v75 D76 => (if v75 = 0 then j448 D76 else zref w 8 4 a (fun p77 => zci (f_MD_sounds w D76 p77 v1 v2) (fun v78 D79 => (if v78 = v4 then j449 (1 : Int32) D79 else j448 D79))))))))) else j448 D))) else some ((0 : Int32), D)))))))))))))))
set_option maxHeartbeats 4000000 in
set_option maxRecDepth 100000 in
theorem c_MD_command (z : zT) (D : zD) (a : Nat) (x1 : Int32) (x2 : Int32) : zM Y_MD_command 6 0 0 (zqI z) (f_MD_command z.2 D a x1 x2) [.ref a, .int x1, .int x2] z D := by
  refine zM_of (plainFor_of_name (by decide +kernel)) rfl (Nat.le_of_ble_eq_true rfl) (fun _ _ _ _ h => nomatch h.1) (fun K => ?_)
  unfold f_MD_command
  refine z_iload_n (pc := 0) d_MD_command_0 rfl 2 rfl ?_
  refine z_sipush (pc := 1) d_MD_command_1 ks_1000 ?_
  refine z_idivK (pc := 4) d_MD_command_4 (by decide) ?_
  refine z_leti (fun v1 => ?_)
  refine z_istore_n (pc := 5) d_MD_command_5 rfl (by decide) (lv' := [(3, .int v1), (0, .ref a), (1, .int x1), (2, .int x2)]) rfl ?_
  refine z_iload_n (pc := 6) d_MD_command_6 rfl 3 rfl ?_
  refine z_bipush (pc := 7) d_MD_command_7 kb_100 ?_
  refine z_idivK (pc := 9) d_MD_command_9 (by decide) ?_
  refine z_bipush (pc := 10) d_MD_command_10 kb_10 ?_
  refine z_iremK (pc := 12) d_MD_command_12 (by decide) ?_
  refine z_leti (fun v2 => ?_)
  refine z_istore (pc := 13) d_MD_command_13 (by decide) (lv' := [(4, .int v2), (3, .int v1), (0, .ref a), (1, .int x1), (2, .int x2)]) rfl ?_
  refine z_iload_n (pc := 15) d_MD_command_15 rfl 4 rfl ?_
  refine z_bipush (pc := 16) d_MD_command_16 kb_10 ?_
  refine z_idivK (pc := 18) d_MD_command_18 (by decide) ?_
  refine z_bipush (pc := 19) d_MD_command_19 kb_10 ?_
  refine z_iremK (pc := 21) d_MD_command_21 (by decide) ?_
  refine z_leti (fun v3 => ?_)
  refine z_istore (pc := 22) d_MD_command_22 (by decide) (lv' := [(5, .int v3), (4, .int v2), (3, .int v1), (0, .ref a), (1, .int x1), (2, .int x2)]) rfl ?_
  refine z_iload_n (pc := 24) d_MD_command_24 rfl 5 rfl ?_
  refine z_bipush (pc := 25) d_MD_command_25 kb_10 ?_
  refine z_iremK (pc := 27) d_MD_command_27 (by decide) ?_
  refine z_leti (fun v4 => ?_)
  refine z_istore (pc := 28) d_MD_command_28 (by decide) (lv' := [(6, .int v4), (5, .int v3), (4, .int v2), (3, .int v1), (0, .ref a), (1, .int x1), (2, .int x2)]) rfl ?_
  refine z_iload_n (pc := 30) d_MD_command_30 rfl 6 rfl ?_
  refine z_bipush (pc := 31) d_MD_command_31 kb_100 ?_
  refine z_iremK (pc := 33) d_MD_command_33 (by decide) ?_
  refine z_leti (fun v5 => ?_)
  refine z_istore (pc := 34) d_MD_command_34 (by decide) (lv' := [(7, .int v5), (6, .int v4), (5, .int v3), (4, .int v2), (3, .int v1), (0, .ref a), (1, .int x1), (2, .int x2)]) rfl ?_
  refine z_iload_n (pc := 36) d_MD_command_36 rfl 6 rfl ?_
  refine z_case (fun e1 => ?_) (fun e1 => ?_)
  · refine z_tableIn (pc := 37) (tgt := 88) d_MD_command_37 e1 (by decide) (by decide) rfl (by decide) ?_
    refine z_jp (fun j116 : Int32 → zD → Option (Int32 × zD) => ∀ (s0 : Int32) (D6 : zD), zGO K Y_MD_command 6 0 0 (zqI z) (j116 s0 D6) 0 0 z D6 116 [] [.int s0]) (fun s0 D6 => ?_) (fun j116 h116 => ?_)
    · exact z_zret (pc := 116) d_MD_command_116 rfl
    · refine z_jp (fun j115 : zD → Option (Int32 × zD) => ∀ (D7 : zD), zGO K Y_MD_command 6 0 0 (zqI z) (j115  D7) 0 0 z D7 115 [] []) (fun  D7 => ?_) (fun j115 h115 => ?_)
      · refine z_iconst (pc := 115) d_MD_command_115 ki_0 ?_
        exact z_sub [] rfl (h116 (0 : Int32) D7)
      · refine z_iload_n (pc := 88) d_MD_command_88 rfl 7 rfl ?_
        refine z_i2l (pc := 89) d_MD_command_89 ?_
        refine z_lconst (pc := 90) d_MD_command_90 (v := 1) rfl ?_
        refine z_ldc2 (pc := 91) w_k_MD_43 d_MD_command_91 ?_
        refine z_callSi (pc := 94) [.long x2.toInt64, .long (1 : Int64), .long (99 : Int64)] lkS_MD_37 (c_MD_in z D x2.toInt64 (1 : Int64) (99 : Int64)) (by decide) rfl rfl (Nat.le_of_ble_eq_true rfl) d_MD_command_94 (fun v8 D9 => ?_)
        refine z_if_eq (pc := 97) (tgt := 115) d_MD_command_97 (by decide) ?_ ?_
        · exact z_sub [] rfl (h115 D9)
        · refine z_aload_n (pc := 100) d_MD_command_100 rfl 5 rfl ?_
          refine z_getR (pc := 101) fl_MD_16 d_MD_command_101 (fun p10 => ?_)
          refine z_iload_n (pc := 104) d_MD_command_104 rfl 7 rfl ?_
          refine z_callSi (pc := 105) [.ref p10, .int x2] lkS_MD_178 (c_MD_ticksOn z D9 p10 x2) (by decide) rfl rfl (Nat.le_of_ble_eq_true rfl) d_MD_command_105 (fun v11 D12 => ?_)
          refine z_if_lt (pc := 108) (tgt := 115) d_MD_command_108 (by decide) ?_ ?_
          · exact z_sub [] rfl (h115 D12)
          · refine z_iconst (pc := 111) d_MD_command_111 ki_1 ?_
            refine z_goto (pc := 112) (tgt := 116) d_MD_command_112 (by decide) ?_
            exact z_sub [] rfl (h116 (1 : Int32) D12)
  · refine z_case (fun e2 => ?_) (fun e2 => ?_)
    · refine z_tableIn (pc := 37) (tgt := 117) d_MD_command_37 e2 (by decide) (by decide) rfl (by decide) ?_
      refine z_jp (fun j164 : Int32 → zD → Option (Int32 × zD) => ∀ (s0 : Int32) (D13 : zD), zGO K Y_MD_command 6 0 0 (zqI z) (j164 s0 D13) 0 0 z D13 164 [] [.int s0]) (fun s0 D13 => ?_) (fun j164 h164 => ?_)
      · exact z_zret (pc := 164) d_MD_command_164 rfl
      · refine z_jp (fun j163 : zD → Option (Int32 × zD) => ∀ (D14 : zD), zGO K Y_MD_command 6 0 0 (zqI z) (j163  D14) 0 0 z D14 163 [] []) (fun  D14 => ?_) (fun j163 h163 => ?_)
        · refine z_iconst (pc := 163) d_MD_command_163 ki_0 ?_
          exact z_sub [] rfl (h164 (0 : Int32) D14)
        · refine z_iload_n (pc := 117) d_MD_command_117 rfl 7 rfl ?_
          refine z_sipush (pc := 118) d_MD_command_118 ks_1000 ?_
          refine z_iremK (pc := 121) d_MD_command_121 (by decide) ?_
          refine z_iconst (pc := 122) d_MD_command_122 ki_2 ?_
          refine z_icmp_ge (pc := 123) (tgt := 163) d_MD_command_123 (by decide) ?_ ?_
          · exact z_sub [] rfl (h163 D)
          · refine z_aload_n (pc := 126) d_MD_command_126 rfl 5 rfl ?_
            refine z_getR (pc := 127) fl_MD_16 d_MD_command_127 (fun p15 => ?_)
            refine z_iload_n (pc := 130) d_MD_command_130 rfl 4 rfl ?_
            refine z_callSi (pc := 131) [.ref p15, .int v1] lkS_MD_168 (c_MD_isSiren z D p15 v1) (by decide) rfl rfl (Nat.le_of_ble_eq_true rfl) d_MD_command_131 (fun v16 D17 => ?_)
            refine z_if_eq (pc := 134) (tgt := 163) d_MD_command_134 (by decide) ?_ ?_
            · exact z_sub [] rfl (h163 D17)
            · refine z_jp (fun j153 : Nat → Int32 → Int32 → zD → Option (Int32 × zD) => ∀ (s0 : Nat) (s1 : Int32) (s2 : Int32) (D18 : zD), zGO K Y_MD_command 6 0 0 (zqI z) (j153 s0 s1 s2 D18) 0 0 z D18 153 [] [.int s2, .int s1, .ref s0]) (fun s0 s1 s2 D18 => ?_) (fun j153 h153 => ?_)
              · refine z_callSi (pc := 153) [.ref s0, .int s1, .int s2] lkS_MD_171 (c_MD_turnOn z D18 s0 s1 s2) (by decide) rfl rfl (Nat.le_of_ble_eq_true rfl) d_MD_command_153 (fun v19 D20 => ?_)
                refine z_if_lt (pc := 156) (tgt := 163) d_MD_command_156 (by decide) ?_ ?_
                · exact z_sub [] rfl (h163 D20)
                · refine z_iconst (pc := 159) d_MD_command_159 ki_1 ?_
                  refine z_goto (pc := 160) (tgt := 164) d_MD_command_160 (by decide) ?_
                  exact z_sub [] rfl (h164 (1 : Int32) D20)
              · refine z_aload_n (pc := 137) d_MD_command_137 rfl 5 rfl ?_
                refine z_getR (pc := 138) fl_MD_16 d_MD_command_138 (fun p21 => ?_)
                refine z_iload_n (pc := 141) d_MD_command_141 rfl 4 rfl ?_
                refine z_iload (pc := 142) d_MD_command_142 1 rfl ?_
                refine z_iconst (pc := 144) d_MD_command_144 ki_1 ?_
                refine z_icmp_ne (pc := 145) (tgt := 152) d_MD_command_145 (by decide) ?_ ?_
                · refine z_iconst (pc := 148) d_MD_command_148 ki_1 ?_
                  refine z_goto (pc := 149) (tgt := 153) d_MD_command_149 (by decide) ?_
                  exact z_sub [] rfl (h153 p21 v1 (1 : Int32) D17)
                · refine z_iconst (pc := 152) d_MD_command_152 ki_0 ?_
                  exact z_sub [] rfl (h153 p21 v1 (0 : Int32) D17)
    · refine z_case (fun e3 => ?_) (fun e3 => ?_)
      · refine z_tableIn (pc := 37) (tgt := 165) d_MD_command_37 e3 (by decide) (by decide) rfl (by decide) ?_
        refine z_jp (fun j221 : Int32 → zD → Option (Int32 × zD) => ∀ (s0 : Int32) (D22 : zD), zGO K Y_MD_command 6 0 0 (zqI z) (j221 s0 D22) 0 0 z D22 221 [] [.int s0]) (fun s0 D22 => ?_) (fun j221 h221 => ?_)
        · exact z_zret (pc := 221) d_MD_command_221 rfl
        · refine z_jp (fun j220 : zD → Option (Int32 × zD) => ∀ (D23 : zD), zGO K Y_MD_command 6 0 0 (zqI z) (j220  D23) 0 0 z D23 220 [] []) (fun  D23 => ?_) (fun j220 h220 => ?_)
          · refine z_iconst (pc := 220) d_MD_command_220 ki_0 ?_
            exact z_sub [] rfl (h221 (0 : Int32) D23)
          · refine z_iload (pc := 165) d_MD_command_165 1 rfl ?_
            refine z_if_ne (pc := 167) (tgt := 220) d_MD_command_167 (by decide) ?_ ?_
            · refine z_aload_n (pc := 170) d_MD_command_170 rfl 5 rfl ?_
              refine z_getR (pc := 171) fl_MD_16 d_MD_command_171 (fun p24 => ?_)
              refine z_iload_n (pc := 174) d_MD_command_174 rfl 4 rfl ?_
              refine z_callSi (pc := 175) [.ref p24, .int v1] lkS_MD_195 (c_MD_isHearer z D p24 v1) (by decide) rfl rfl (Nat.le_of_ble_eq_true rfl) d_MD_command_175 (fun v25 D26 => ?_)
              refine z_if_eq (pc := 178) (tgt := 220) d_MD_command_178 (by decide) ?_ ?_
              · exact z_sub [] rfl (h220 D26)
              · refine z_iload (pc := 181) d_MD_command_181 3 rfl ?_
                refine z_iconst (pc := 183) d_MD_command_183 ki_2 ?_
                refine z_isub (pc := 184) d_MD_command_184 ?_
                refine z_iload (pc := 185) d_MD_command_185 2 rfl ?_
                refine z_iconst (pc := 187) d_MD_command_187 ki_2 ?_
                refine z_isub (pc := 188) d_MD_command_188 ?_
                refine z_callSi (pc := 189) [.int (v2 - (2 : Int32)), .int (v3 - (2 : Int32))] lkS_MD_222 (c_MD_isWay z D26 (v2 - (2 : Int32)) (v3 - (2 : Int32))) (by decide) rfl rfl (Nat.le_of_ble_eq_true rfl) d_MD_command_189 (fun v27 D28 => ?_)
                refine z_if_eq (pc := 192) (tgt := 220) d_MD_command_192 (by decide) ?_ ?_
                · exact z_sub [] rfl (h220 D28)
                · refine z_aload_n (pc := 195) d_MD_command_195 rfl 5 rfl ?_
                  refine z_getR (pc := 196) fl_MD_16 d_MD_command_196 (fun p29 => ?_)
                  refine z_iload_n (pc := 199) d_MD_command_199 rfl 4 rfl ?_
                  refine z_iload (pc := 200) d_MD_command_200 3 rfl ?_
                  refine z_iconst (pc := 202) d_MD_command_202 ki_2 ?_
                  refine z_isub (pc := 203) d_MD_command_203 ?_
                  refine z_iload (pc := 204) d_MD_command_204 2 rfl ?_
                  refine z_iconst (pc := 206) d_MD_command_206 ki_2 ?_
                  refine z_isub (pc := 207) d_MD_command_207 ?_
                  refine z_callSi (pc := 208) [.ref p29, .int v1, .int (v2 - (2 : Int32)), .int (v3 - (2 : Int32))] lkS_MD_225 (c_MD_walkOn z D28 p29 v1 (v2 - (2 : Int32)) (v3 - (2 : Int32))) (by decide) rfl rfl (Nat.le_of_ble_eq_true rfl) d_MD_command_208 (fun v30 D31 => ?_)
                  refine z_bipush (pc := 211) d_MD_command_211 kb_m40 ?_
                  refine z_icmp_lt (pc := 213) (tgt := 220) d_MD_command_213 (by decide) ?_ ?_
                  · exact z_sub [] rfl (h220 D31)
                  · refine z_iconst (pc := 216) d_MD_command_216 ki_1 ?_
                    refine z_goto (pc := 217) (tgt := 221) d_MD_command_217 (by decide) ?_
                    exact z_sub [] rfl (h221 (1 : Int32) D31)
            · exact z_sub [] rfl (h220 D)
      · refine z_case (fun e4 => ?_) (fun e4 => ?_)
        · refine z_tableIn (pc := 37) (tgt := 222) d_MD_command_37 e4 (by decide) (by decide) rfl (by decide) ?_
          refine z_jp (fun j254 : Int32 → zD → Option (Int32 × zD) => ∀ (s0 : Int32) (D32 : zD), zGO K Y_MD_command 6 0 0 (zqI z) (j254 s0 D32) 0 0 z D32 254 [] [.int s0]) (fun s0 D32 => ?_) (fun j254 h254 => ?_)
          · exact z_zret (pc := 254) d_MD_command_254 rfl
          · refine z_jp (fun j253 : zD → Option (Int32 × zD) => ∀ (D33 : zD), zGO K Y_MD_command 6 0 0 (zqI z) (j253  D33) 0 0 z D33 253 [] []) (fun  D33 => ?_) (fun j253 h253 => ?_)
            · refine z_iconst (pc := 253) d_MD_command_253 ki_0 ?_
              exact z_sub [] rfl (h254 (0 : Int32) D33)
            · refine z_iload (pc := 222) d_MD_command_222 3 rfl ?_
              refine z_if_ne (pc := 224) (tgt := 253) d_MD_command_224 (by decide) ?_ ?_
              · refine z_iload_n (pc := 227) d_MD_command_227 rfl 4 rfl ?_
                refine z_iload (pc := 228) d_MD_command_228 0 rfl ?_
                refine z_callSi (pc := 230) [.int v1, .int v5] lkS_MD_229 (c_MD_isSetting z D v1 v5) (by decide) rfl rfl (Nat.le_of_ble_eq_true rfl) d_MD_command_230 (fun v34 D35 => ?_)
                refine z_if_eq (pc := 233) (tgt := 253) d_MD_command_233 (by decide) ?_ ?_
                · exact z_sub [] rfl (h253 D35)
                · refine z_aload_n (pc := 236) d_MD_command_236 rfl 5 rfl ?_
                  refine z_getR (pc := 237) fl_MD_16 d_MD_command_237 (fun p36 => ?_)
                  refine z_iload_n (pc := 240) d_MD_command_240 rfl 4 rfl ?_
                  refine z_iload (pc := 241) d_MD_command_241 0 rfl ?_
                  refine z_callSi (pc := 243) [.ref p36, .int v1, .int v5] lkS_MD_175 (c_MD_change z D35 p36 v1 v5) (by decide) rfl rfl (Nat.le_of_ble_eq_true rfl) d_MD_command_243 (fun v37 D38 => ?_)
                  refine z_if_lt (pc := 246) (tgt := 253) d_MD_command_246 (by decide) ?_ ?_
                  · exact z_sub [] rfl (h253 D38)
                  · refine z_iconst (pc := 249) d_MD_command_249 ki_1 ?_
                    refine z_goto (pc := 250) (tgt := 254) d_MD_command_250 (by decide) ?_
                    exact z_sub [] rfl (h254 (1 : Int32) D38)
              · exact z_sub [] rfl (h253 D)
        · refine z_case (fun e5 => ?_) (fun e5 => ?_)
          · refine z_tableIn (pc := 37) (tgt := 255) d_MD_command_37 e5 (by decide) (by decide) rfl (by decide) ?_
            refine z_jp (fun j305 : Int32 → zD → Option (Int32 × zD) => ∀ (s0 : Int32) (D39 : zD), zGO K Y_MD_command 6 0 0 (zqI z) (j305 s0 D39) 0 0 z D39 305 [] [.int s0]) (fun s0 D39 => ?_) (fun j305 h305 => ?_)
            · exact z_zret (pc := 305) d_MD_command_305 rfl
            · refine z_jp (fun j304 : zD → Option (Int32 × zD) => ∀ (D40 : zD), zGO K Y_MD_command 6 0 0 (zqI z) (j304  D40) 0 0 z D40 304 [] []) (fun  D40 => ?_) (fun j304 h304 => ?_)
              · refine z_iconst (pc := 304) d_MD_command_304 ki_0 ?_
                exact z_sub [] rfl (h305 (0 : Int32) D40)
              · refine z_aload_n (pc := 255) d_MD_command_255 rfl 5 rfl ?_
                refine z_getR (pc := 256) fl_MD_16 d_MD_command_256 (fun p41 => ?_)
                refine z_iload_n (pc := 259) d_MD_command_259 rfl 4 rfl ?_
                refine z_callSi (pc := 260) [.ref p41, .int v1] lkS_MD_195 (c_MD_isHearer z D p41 v1) (by decide) rfl rfl (Nat.le_of_ble_eq_true rfl) d_MD_command_260 (fun v42 D43 => ?_)
                refine z_if_eq (pc := 263) (tgt := 304) d_MD_command_263 (by decide) ?_ ?_
                · exact z_sub [] rfl (h304 D43)
                · refine z_aload_n (pc := 266) d_MD_command_266 rfl 5 rfl ?_
                  refine z_getR (pc := 267) fl_MD_16 d_MD_command_267 (fun p44 => ?_)
                  refine z_iload (pc := 270) d_MD_command_270 3 rfl ?_
                  refine z_callSi (pc := 272) [.ref p44, .int v2] lkS_MD_168 (c_MD_isSiren z D43 p44 v2) (by decide) rfl rfl (Nat.le_of_ble_eq_true rfl) d_MD_command_272 (fun v45 D46 => ?_)
                  refine z_if_eq (pc := 275) (tgt := 304) d_MD_command_275 (by decide) ?_ ?_
                  · exact z_sub [] rfl (h304 D46)
                  · refine z_aload_n (pc := 278) d_MD_command_278 rfl 5 rfl ?_
                    refine z_getR (pc := 279) fl_MD_16 d_MD_command_279 (fun p47 => ?_)
                    refine z_bipush (pc := 282) d_MD_command_282 kb_65 ?_
                    refine z_bipush (pc := 284) d_MD_command_284 kb_6 ?_
                    refine z_iconst (pc := 286) d_MD_command_286 ki_4 ?_
                    refine z_iload_n (pc := 287) d_MD_command_287 rfl 4 rfl ?_
                    refine z_imul (pc := 288) d_MD_command_288 ?_
                    refine z_iload (pc := 289) d_MD_command_289 3 rfl ?_
                    refine z_iadd (pc := 291) d_MD_command_291 ?_
                    refine z_imul (pc := 292) d_MD_command_292 ?_
                    refine z_iadd (pc := 293) d_MD_command_293 ?_
                    refine z_iaload (pc := 294) d_MD_command_294 (fun v48 => ?_)
                    refine z_iload (pc := 295) d_MD_command_295 0 rfl ?_
                    refine z_icmp_lt (pc := 297) (tgt := 304) d_MD_command_297 (by decide) ?_ ?_
                    · exact z_sub [] rfl (h304 D46)
                    · refine z_iconst (pc := 300) d_MD_command_300 ki_1 ?_
                      refine z_goto (pc := 301) (tgt := 305) d_MD_command_301 (by decide) ?_
                      exact z_sub [] rfl (h305 (1 : Int32) D46)
          · refine z_case (fun e6 => ?_) (fun e6 => ?_)
            · refine z_tableIn (pc := 37) (tgt := 306) d_MD_command_37 e6 (by decide) (by decide) rfl (by decide) ?_
              refine z_jp (fun j327 : Int32 → zD → Option (Int32 × zD) => ∀ (s0 : Int32) (D49 : zD), zGO K Y_MD_command 6 0 0 (zqI z) (j327 s0 D49) 0 0 z D49 327 [] [.int s0]) (fun s0 D49 => ?_) (fun j327 h327 => ?_)
              · exact z_zret (pc := 327) d_MD_command_327 rfl
              · refine z_jp (fun j326 : zD → Option (Int32 × zD) => ∀ (D50 : zD), zGO K Y_MD_command 6 0 0 (zqI z) (j326  D50) 0 0 z D50 326 [] []) (fun  D50 => ?_) (fun j326 h326 => ?_)
                · refine z_iconst (pc := 326) d_MD_command_326 ki_0 ?_
                  exact z_sub [] rfl (h327 (0 : Int32) D50)
                · refine z_iload_n (pc := 306) d_MD_command_306 rfl 7 rfl ?_
                  refine z_bipush (pc := 307) d_MD_command_307 kb_100 ?_
                  refine z_icmp_ge (pc := 309) (tgt := 326) d_MD_command_309 (by decide) ?_ ?_
                  · exact z_sub [] rfl (h326 D)
                  · refine z_aload_n (pc := 312) d_MD_command_312 rfl 5 rfl ?_
                    refine z_getR (pc := 313) fl_MD_16 d_MD_command_313 (fun p51 => ?_)
                    refine z_iconst (pc := 316) d_MD_command_316 ki_4 ?_
                    refine z_iaload (pc := 317) d_MD_command_317 (fun v52 => ?_)
                    refine z_iload_n (pc := 318) d_MD_command_318 rfl 7 rfl ?_
                    refine z_icmp_gt (pc := 319) (tgt := 326) d_MD_command_319 (by decide) ?_ ?_
                    · exact z_sub [] rfl (h326 D)
                    · refine z_iconst (pc := 322) d_MD_command_322 ki_1 ?_
                      refine z_goto (pc := 323) (tgt := 327) d_MD_command_323 (by decide) ?_
                      exact z_sub [] rfl (h327 (1 : Int32) D)
            · refine z_case (fun e7 => ?_) (fun e7 => ?_)
              · refine z_tableIn (pc := 37) (tgt := 328) d_MD_command_37 e7 (by decide) (by decide) rfl (by decide) ?_
                refine z_jp (fun j363 : Int32 → zD → Option (Int32 × zD) => ∀ (s0 : Int32) (D53 : zD), zGO K Y_MD_command 6 0 0 (zqI z) (j363 s0 D53) 0 0 z D53 363 [] [.int s0]) (fun s0 D53 => ?_) (fun j363 h363 => ?_)
                · exact z_zret (pc := 363) d_MD_command_363 rfl
                · refine z_jp (fun j362 : zD → Option (Int32 × zD) => ∀ (D54 : zD), zGO K Y_MD_command 6 0 0 (zqI z) (j362  D54) 0 0 z D54 362 [] []) (fun  D54 => ?_) (fun j362 h362 => ?_)
                  · refine z_iconst (pc := 362) d_MD_command_362 ki_0 ?_
                    exact z_sub [] rfl (h363 (0 : Int32) D54)
                  · refine z_iload (pc := 328) d_MD_command_328 3 rfl ?_
                    refine z_if_ne (pc := 330) (tgt := 362) d_MD_command_330 (by decide) ?_ ?_
                    · refine z_aload_n (pc := 333) d_MD_command_333 rfl 5 rfl ?_
                      refine z_getR (pc := 334) fl_MD_16 d_MD_command_334 (fun p55 => ?_)
                      refine z_iload_n (pc := 337) d_MD_command_337 rfl 4 rfl ?_
                      refine z_callSi (pc := 338) [.ref p55, .int v1] lkS_MD_195 (c_MD_isHearer z D p55 v1) (by decide) rfl rfl (Nat.le_of_ble_eq_true rfl) d_MD_command_338 (fun v56 D57 => ?_)
                      refine z_if_eq (pc := 341) (tgt := 362) d_MD_command_341 (by decide) ?_ ?_
                      · exact z_sub [] rfl (h362 D57)
                      · refine z_aload_n (pc := 344) d_MD_command_344 rfl 5 rfl ?_
                        refine z_getR (pc := 345) fl_MD_16 d_MD_command_345 (fun p58 => ?_)
                        refine z_iload_n (pc := 348) d_MD_command_348 rfl 4 rfl ?_
                        refine z_iconst (pc := 349) d_MD_command_349 ki_4 ?_
                        refine z_callSi (pc := 350) [.ref p58, .int v1, .int (4 : Int32)] lkS_MD_70 (c_MD_ofHearer z D57 p58 v1 (4 : Int32)) (by decide) rfl rfl (Nat.le_of_ble_eq_true rfl) d_MD_command_350 (fun v59 D60 => ?_)
                        refine z_iload (pc := 353) d_MD_command_353 0 rfl ?_
                        refine z_icmp_lt (pc := 355) (tgt := 362) d_MD_command_355 (by decide) ?_ ?_
                        · exact z_sub [] rfl (h362 D60)
                        · refine z_iconst (pc := 358) d_MD_command_358 ki_1 ?_
                          refine z_goto (pc := 359) (tgt := 363) d_MD_command_359 (by decide) ?_
                          exact z_sub [] rfl (h363 (1 : Int32) D60)
                    · exact z_sub [] rfl (h362 D)
              · refine z_case (fun e8 => ?_) (fun e8 => ?_)
                · refine z_tableIn (pc := 37) (tgt := 364) d_MD_command_37 e8 (by decide) (by decide) rfl (by decide) ?_
                  refine z_jp (fun j400 : Int32 → zD → Option (Int32 × zD) => ∀ (s0 : Int32) (D61 : zD), zGO K Y_MD_command 6 0 0 (zqI z) (j400 s0 D61) 0 0 z D61 400 [] [.int s0]) (fun s0 D61 => ?_) (fun j400 h400 => ?_)
                  · exact z_zret (pc := 400) d_MD_command_400 rfl
                  · refine z_jp (fun j399 : zD → Option (Int32 × zD) => ∀ (D62 : zD), zGO K Y_MD_command 6 0 0 (zqI z) (j399  D62) 0 0 z D62 399 [] []) (fun  D62 => ?_) (fun j399 h399 => ?_)
                    · refine z_iconst (pc := 399) d_MD_command_399 ki_0 ?_
                      exact z_sub [] rfl (h400 (0 : Int32) D62)
                    · refine z_iload (pc := 364) d_MD_command_364 3 rfl ?_
                      refine z_if_ne (pc := 366) (tgt := 399) d_MD_command_366 (by decide) ?_ ?_
                      · refine z_aload_n (pc := 369) d_MD_command_369 rfl 5 rfl ?_
                        refine z_getR (pc := 370) fl_MD_16 d_MD_command_370 (fun p63 => ?_)
                        refine z_iload_n (pc := 373) d_MD_command_373 rfl 4 rfl ?_
                        refine z_callSi (pc := 374) [.ref p63, .int v1] lkS_MD_168 (c_MD_isSiren z D p63 v1) (by decide) rfl rfl (Nat.le_of_ble_eq_true rfl) d_MD_command_374 (fun v64 D65 => ?_)
                        refine z_if_eq (pc := 377) (tgt := 399) d_MD_command_377 (by decide) ?_ ?_
                        · exact z_sub [] rfl (h399 D65)
                        · refine z_aload_n (pc := 380) d_MD_command_380 rfl 5 rfl ?_
                          refine z_getR (pc := 381) fl_MD_16 d_MD_command_381 (fun p66 => ?_)
                          refine z_iload_n (pc := 384) d_MD_command_384 rfl 4 rfl ?_
                          refine z_bipush (pc := 385) d_MD_command_385 kb_6 ?_
                          refine z_callSi (pc := 387) [.ref p66, .int v1, .int (6 : Int32)] lkS_MD_45 (c_MD_ofSiren z D65 p66 v1 (6 : Int32)) (by decide) rfl rfl (Nat.le_of_ble_eq_true rfl) d_MD_command_387 (fun v67 D68 => ?_)
                          refine z_iload (pc := 390) d_MD_command_390 0 rfl ?_
                          refine z_icmp_ne (pc := 392) (tgt := 399) d_MD_command_392 (by decide) ?_ ?_
                          · refine z_iconst (pc := 395) d_MD_command_395 ki_1 ?_
                            refine z_goto (pc := 396) (tgt := 400) d_MD_command_396 (by decide) ?_
                            exact z_sub [] rfl (h400 (1 : Int32) D68)
                          · exact z_sub [] rfl (h399 D68)
                      · exact z_sub [] rfl (h399 D)
                · refine z_case (fun e9 => ?_) (fun e9 => ?_)
                  · refine z_tableIn (pc := 37) (tgt := 401) d_MD_command_37 e9 (by decide) (by decide) rfl (by decide) ?_
                    refine z_jp (fun j449 : Int32 → zD → Option (Int32 × zD) => ∀ (s0 : Int32) (D69 : zD), zGO K Y_MD_command 6 0 0 (zqI z) (j449 s0 D69) 0 0 z D69 449 [] [.int s0]) (fun s0 D69 => ?_) (fun j449 h449 => ?_)
                    · exact z_zret (pc := 449) d_MD_command_449 rfl
                    · refine z_jp (fun j448 : zD → Option (Int32 × zD) => ∀ (D70 : zD), zGO K Y_MD_command 6 0 0 (zqI z) (j448  D70) 0 0 z D70 448 [] []) (fun  D70 => ?_) (fun j448 h448 => ?_)
                      · refine z_iconst (pc := 448) d_MD_command_448 ki_0 ?_
                        exact z_sub [] rfl (h449 (0 : Int32) D70)
                      · refine z_iload (pc := 401) d_MD_command_401 2 rfl ?_
                        refine z_if_ne (pc := 403) (tgt := 448) d_MD_command_403 (by decide) ?_ ?_
                        · refine z_aload_n (pc := 406) d_MD_command_406 rfl 5 rfl ?_
                          refine z_getR (pc := 407) fl_MD_16 d_MD_command_407 (fun p71 => ?_)
                          refine z_iload_n (pc := 410) d_MD_command_410 rfl 4 rfl ?_
                          refine z_callSi (pc := 411) [.ref p71, .int v1] lkS_MD_195 (c_MD_isHearer z D p71 v1) (by decide) rfl rfl (Nat.le_of_ble_eq_true rfl) d_MD_command_411 (fun v72 D73 => ?_)
                          refine z_if_eq (pc := 414) (tgt := 448) d_MD_command_414 (by decide) ?_ ?_
                          · exact z_sub [] rfl (h448 D73)
                          · refine z_aload_n (pc := 417) d_MD_command_417 rfl 5 rfl ?_
                            refine z_getR (pc := 418) fl_MD_16 d_MD_command_418 (fun p74 => ?_)
                            refine z_iload (pc := 421) d_MD_command_421 3 rfl ?_
                            refine z_callSi (pc := 423) [.ref p74, .int v2] lkS_MD_168 (c_MD_isSiren z D73 p74 v2) (by decide) rfl rfl (Nat.le_of_ble_eq_true rfl) d_MD_command_423 (fun v75 D76 => ?_)
                            refine z_if_eq (pc := 426) (tgt := 448) d_MD_command_426 (by decide) ?_ ?_
                            · exact z_sub [] rfl (h448 D76)
                            · refine z_aload_n (pc := 429) d_MD_command_429 rfl 5 rfl ?_
                              refine z_getR (pc := 430) fl_MD_16 d_MD_command_430 (fun p77 => ?_)
                              refine z_iload_n (pc := 433) d_MD_command_433 rfl 4 rfl ?_
                              refine z_iload (pc := 434) d_MD_command_434 3 rfl ?_
                              refine z_callSi (pc := 436) [.ref p77, .int v1, .int v2] lkS_MD_203 (c_MD_sounds z D76 p77 v1 v2) (by decide) rfl rfl (Nat.le_of_ble_eq_true rfl) d_MD_command_436 (fun v78 D79 => ?_)
                              refine z_iload (pc := 439) d_MD_command_439 1 rfl ?_
                              refine z_icmp_ne (pc := 441) (tgt := 448) d_MD_command_441 (by decide) ?_ ?_
                              · refine z_iconst (pc := 444) d_MD_command_444 ki_1 ?_
                                refine z_goto (pc := 445) (tgt := 449) d_MD_command_445 (by decide) ?_
                                exact z_sub [] rfl (h449 (1 : Int32) D79)
                              · exact z_sub [] rfl (h448 D79)
                        · exact z_sub [] rfl (h448 D)
                  · refine z_tableOut (pc := 37) (tgt := 450) d_MD_command_37 (by have g1 := z_neI e1 (n := 1) rfl; have g2 := z_neI e2 (n := 2) rfl; have g3 := z_neI e3 (n := 3) rfl; have g4 := z_neI e4 (n := 4) rfl; have g5 := z_neI e5 (n := 5) rfl; have g6 := z_neI e6 (n := 6) rfl; have g7 := z_neI e7 (n := 7) rfl; have g8 := z_neI e8 (n := 8) rfl; have g9 := z_neI e9 (n := 9) rfl; omega) (by decide) ?_
                    refine z_iconst (pc := 450) d_MD_command_450 ki_0 ?_
                    exact z_zretK (pc := 451) d_MD_command_451 rfl (by decide)
theorem d_MD_turnOf_0 : decode Y_MD_turnOf.2.1 0 = .ok (.iload_n 1, 1) := by decide +kernel
theorem d_MD_turnOf_1 : decode Y_MD_turnOf.2.1 1 = .ok (.ifCond .ne (62), 3) := by decide +kernel
theorem d_MD_turnOf_4 : decode Y_MD_turnOf.2.1 4 = .ok (.aload_n 0, 1) := by decide +kernel
theorem d_MD_turnOf_5 : decode Y_MD_turnOf.2.1 5 = .ok (.iconst (0), 1) := by decide +kernel
theorem d_MD_turnOf_6 : decode Y_MD_turnOf.2.1 6 = .ok (.iaload, 1) := by decide +kernel
theorem d_MD_turnOf_7 : decode Y_MD_turnOf.2.1 7 = .ok (.iconst (4), 1) := by decide +kernel
theorem d_MD_turnOf_8 : decode Y_MD_turnOf.2.1 8 = .ok (.if_icmp .ge (222), 3) := by decide +kernel
theorem d_MD_turnOf_11 : decode Y_MD_turnOf.2.1 11 = .ok (.aload_n 0, 1) := by decide +kernel
theorem d_MD_turnOf_12 : decode Y_MD_turnOf.2.1 12 = .ok (.iload_n 2, 1) := by decide +kernel
theorem d_MD_turnOf_13 : decode Y_MD_turnOf.2.1 13 = .ok (.bipush (61), 2) := by decide +kernel
theorem d_MD_turnOf_15 : decode Y_MD_turnOf.2.1 15 = .ok (.irem, 1) := by decide +kernel
theorem d_MD_turnOf_16 : decode Y_MD_turnOf.2.1 16 = .ok (.bipush (30), 2) := by decide +kernel
theorem d_MD_turnOf_18 : decode Y_MD_turnOf.2.1 18 = .ok (.isub, 1) := by decide +kernel
theorem d_MD_turnOf_19 : decode Y_MD_turnOf.2.1 19 = .ok (.iload_n 2, 1) := by decide +kernel
theorem d_MD_turnOf_20 : decode Y_MD_turnOf.2.1 20 = .ok (.bipush (64), 2) := by decide +kernel
theorem d_MD_turnOf_22 : decode Y_MD_turnOf.2.1 22 = .ok (.idiv, 1) := by decide +kernel
theorem d_MD_turnOf_23 : decode Y_MD_turnOf.2.1 23 = .ok (.bipush (61), 2) := by decide +kernel
theorem d_MD_turnOf_25 : decode Y_MD_turnOf.2.1 25 = .ok (.irem, 1) := by decide +kernel
theorem d_MD_turnOf_26 : decode Y_MD_turnOf.2.1 26 = .ok (.bipush (30), 2) := by decide +kernel
theorem d_MD_turnOf_28 : decode Y_MD_turnOf.2.1 28 = .ok (.isub, 1) := by decide +kernel
theorem d_MD_turnOf_29 : decode Y_MD_turnOf.2.1 29 = .ok (.iconst (1), 1) := by decide +kernel
theorem d_MD_turnOf_30 : decode Y_MD_turnOf.2.1 30 = .ok (.iload_n 2, 1) := by decide +kernel
theorem d_MD_turnOf_31 : decode Y_MD_turnOf.2.1 31 = .ok (.sipush (4096), 3) := by decide +kernel
theorem d_MD_turnOf_34 : decode Y_MD_turnOf.2.1 34 = .ok (.idiv, 1) := by decide +kernel
theorem d_MD_turnOf_35 : decode Y_MD_turnOf.2.1 35 = .ok (.iconst (5), 1) := by decide +kernel
theorem d_MD_turnOf_36 : decode Y_MD_turnOf.2.1 36 = .ok (.irem, 1) := by decide +kernel
theorem d_MD_turnOf_37 : decode Y_MD_turnOf.2.1 37 = .ok (.iadd, 1) := by decide +kernel
theorem d_MD_turnOf_38 : decode Y_MD_turnOf.2.1 38 = .ok (.iload_n 2, 1) := by decide +kernel
theorem d_MD_turnOf_39 : decode Y_MD_turnOf.2.1 39 = .ok (.ldc 239, 2) := by decide +kernel
theorem d_MD_turnOf_41 : decode Y_MD_turnOf.2.1 41 = .ok (.idiv, 1) := by decide +kernel
theorem d_MD_turnOf_42 : decode Y_MD_turnOf.2.1 42 = .ok (.bipush (7), 2) := by decide +kernel
theorem d_MD_turnOf_44 : decode Y_MD_turnOf.2.1 44 = .ok (.irem, 1) := by decide +kernel
theorem d_MD_turnOf_45 : decode Y_MD_turnOf.2.1 45 = .ok (.iconst (3), 1) := by decide +kernel
theorem d_MD_turnOf_46 : decode Y_MD_turnOf.2.1 46 = .ok (.isub, 1) := by decide +kernel
theorem d_MD_turnOf_47 : decode Y_MD_turnOf.2.1 47 = .ok (.iconst (1), 1) := by decide +kernel
theorem d_MD_turnOf_48 : decode Y_MD_turnOf.2.1 48 = .ok (.iload_n 2, 1) := by decide +kernel
theorem d_MD_turnOf_49 : decode Y_MD_turnOf.2.1 49 = .ok (.ldc 240, 2) := by decide +kernel
theorem d_MD_turnOf_51 : decode Y_MD_turnOf.2.1 51 = .ok (.idiv, 1) := by decide +kernel
theorem d_MD_turnOf_52 : decode Y_MD_turnOf.2.1 52 = .ok (.bipush (20), 2) := by decide +kernel
theorem d_MD_turnOf_54 : decode Y_MD_turnOf.2.1 54 = .ok (.irem, 1) := by decide +kernel
theorem d_MD_turnOf_55 : decode Y_MD_turnOf.2.1 55 = .ok (.iadd, 1) := by decide +kernel
theorem d_MD_turnOf_56 : decode Y_MD_turnOf.2.1 56 = .ok (.invokestatic 141, 3) := by decide +kernel
theorem d_MD_turnOf_59 : decode Y_MD_turnOf.2.1 59 = .ok (.pop, 1) := by decide +kernel
theorem d_MD_turnOf_60 : decode Y_MD_turnOf.2.1 60 = .ok (.goto (170), 3) := by decide +kernel
theorem d_MD_turnOf_63 : decode Y_MD_turnOf.2.1 63 = .ok (.iload_n 1, 1) := by decide +kernel
theorem d_MD_turnOf_64 : decode Y_MD_turnOf.2.1 64 = .ok (.iconst (1), 1) := by decide +kernel
theorem d_MD_turnOf_65 : decode Y_MD_turnOf.2.1 65 = .ok (.if_icmp .ne (53), 3) := by decide +kernel
theorem d_MD_turnOf_68 : decode Y_MD_turnOf.2.1 68 = .ok (.aload_n 0, 1) := by decide +kernel
theorem d_MD_turnOf_69 : decode Y_MD_turnOf.2.1 69 = .ok (.iconst (1), 1) := by decide +kernel
theorem d_MD_turnOf_70 : decode Y_MD_turnOf.2.1 70 = .ok (.iaload, 1) := by decide +kernel
theorem d_MD_turnOf_71 : decode Y_MD_turnOf.2.1 71 = .ok (.iconst (4), 1) := by decide +kernel
theorem d_MD_turnOf_72 : decode Y_MD_turnOf.2.1 72 = .ok (.if_icmp .ge (158), 3) := by decide +kernel
theorem d_MD_turnOf_75 : decode Y_MD_turnOf.2.1 75 = .ok (.aload_n 0, 1) := by decide +kernel
theorem d_MD_turnOf_76 : decode Y_MD_turnOf.2.1 76 = .ok (.iload_n 2, 1) := by decide +kernel
theorem d_MD_turnOf_77 : decode Y_MD_turnOf.2.1 77 = .ok (.bipush (81), 2) := by decide +kernel
theorem d_MD_turnOf_79 : decode Y_MD_turnOf.2.1 79 = .ok (.irem, 1) := by decide +kernel
theorem d_MD_turnOf_80 : decode Y_MD_turnOf.2.1 80 = .ok (.bipush (40), 2) := by decide +kernel
theorem d_MD_turnOf_82 : decode Y_MD_turnOf.2.1 82 = .ok (.isub, 1) := by decide +kernel
theorem d_MD_turnOf_83 : decode Y_MD_turnOf.2.1 83 = .ok (.iload_n 2, 1) := by decide +kernel
theorem d_MD_turnOf_84 : decode Y_MD_turnOf.2.1 84 = .ok (.sipush (128), 3) := by decide +kernel
theorem d_MD_turnOf_87 : decode Y_MD_turnOf.2.1 87 = .ok (.idiv, 1) := by decide +kernel
theorem d_MD_turnOf_88 : decode Y_MD_turnOf.2.1 88 = .ok (.bipush (81), 2) := by decide +kernel
theorem d_MD_turnOf_90 : decode Y_MD_turnOf.2.1 90 = .ok (.irem, 1) := by decide +kernel
theorem d_MD_turnOf_91 : decode Y_MD_turnOf.2.1 91 = .ok (.bipush (40), 2) := by decide +kernel
theorem d_MD_turnOf_93 : decode Y_MD_turnOf.2.1 93 = .ok (.isub, 1) := by decide +kernel
theorem d_MD_turnOf_94 : decode Y_MD_turnOf.2.1 94 = .ok (.iload_n 2, 1) := by decide +kernel
theorem d_MD_turnOf_95 : decode Y_MD_turnOf.2.1 95 = .ok (.sipush (16384), 3) := by decide +kernel
theorem d_MD_turnOf_98 : decode Y_MD_turnOf.2.1 98 = .ok (.idiv, 1) := by decide +kernel
theorem d_MD_turnOf_99 : decode Y_MD_turnOf.2.1 99 = .ok (.iconst (5), 1) := by decide +kernel
theorem d_MD_turnOf_100 : decode Y_MD_turnOf.2.1 100 = .ok (.irem, 1) := by decide +kernel
theorem d_MD_turnOf_101 : decode Y_MD_turnOf.2.1 101 = .ok (.iconst (2), 1) := by decide +kernel
theorem d_MD_turnOf_102 : decode Y_MD_turnOf.2.1 102 = .ok (.isub, 1) := by decide +kernel
theorem d_MD_turnOf_103 : decode Y_MD_turnOf.2.1 103 = .ok (.iload_n 2, 1) := by decide +kernel
theorem d_MD_turnOf_104 : decode Y_MD_turnOf.2.1 104 = .ok (.ldc 241, 2) := by decide +kernel
theorem d_MD_turnOf_106 : decode Y_MD_turnOf.2.1 106 = .ok (.idiv, 1) := by decide +kernel
theorem d_MD_turnOf_107 : decode Y_MD_turnOf.2.1 107 = .ok (.iconst (5), 1) := by decide +kernel
theorem d_MD_turnOf_108 : decode Y_MD_turnOf.2.1 108 = .ok (.irem, 1) := by decide +kernel
theorem d_MD_turnOf_109 : decode Y_MD_turnOf.2.1 109 = .ok (.iconst (2), 1) := by decide +kernel
theorem d_MD_turnOf_110 : decode Y_MD_turnOf.2.1 110 = .ok (.isub, 1) := by decide +kernel
theorem d_MD_turnOf_111 : decode Y_MD_turnOf.2.1 111 = .ok (.invokestatic 149, 3) := by decide +kernel
theorem d_MD_turnOf_114 : decode Y_MD_turnOf.2.1 114 = .ok (.pop, 1) := by decide +kernel
theorem d_MD_turnOf_115 : decode Y_MD_turnOf.2.1 115 = .ok (.goto (115), 3) := by decide +kernel
theorem d_MD_turnOf_118 : decode Y_MD_turnOf.2.1 118 = .ok (.iload_n 1, 1) := by decide +kernel
theorem d_MD_turnOf_119 : decode Y_MD_turnOf.2.1 119 = .ok (.iconst (2), 1) := by decide +kernel
theorem d_MD_turnOf_120 : decode Y_MD_turnOf.2.1 120 = .ok (.if_icmp .ne (39), 3) := by decide +kernel
theorem d_MD_turnOf_123 : decode Y_MD_turnOf.2.1 123 = .ok (.aload_n 0, 1) := by decide +kernel
theorem d_MD_turnOf_124 : decode Y_MD_turnOf.2.1 124 = .ok (.iconst (2), 1) := by decide +kernel
theorem d_MD_turnOf_125 : decode Y_MD_turnOf.2.1 125 = .ok (.iaload, 1) := by decide +kernel
theorem d_MD_turnOf_126 : decode Y_MD_turnOf.2.1 126 = .ok (.iconst (3), 1) := by decide +kernel
theorem d_MD_turnOf_127 : decode Y_MD_turnOf.2.1 127 = .ok (.if_icmp .ge (103), 3) := by decide +kernel
theorem d_MD_turnOf_130 : decode Y_MD_turnOf.2.1 130 = .ok (.aload_n 0, 1) := by decide +kernel
theorem d_MD_turnOf_131 : decode Y_MD_turnOf.2.1 131 = .ok (.iload_n 2, 1) := by decide +kernel
theorem d_MD_turnOf_132 : decode Y_MD_turnOf.2.1 132 = .ok (.iconst (2), 1) := by decide +kernel
theorem d_MD_turnOf_133 : decode Y_MD_turnOf.2.1 133 = .ok (.irem, 1) := by decide +kernel
theorem d_MD_turnOf_134 : decode Y_MD_turnOf.2.1 134 = .ok (.iconst (1), 1) := by decide +kernel
theorem d_MD_turnOf_135 : decode Y_MD_turnOf.2.1 135 = .ok (.if_icmp .ne (7), 3) := by decide +kernel
theorem d_MD_turnOf_138 : decode Y_MD_turnOf.2.1 138 = .ok (.iconst (1), 1) := by decide +kernel
theorem d_MD_turnOf_139 : decode Y_MD_turnOf.2.1 139 = .ok (.goto (4), 3) := by decide +kernel
theorem d_MD_turnOf_142 : decode Y_MD_turnOf.2.1 142 = .ok (.iconst (0), 1) := by decide +kernel
theorem d_MD_turnOf_143 : decode Y_MD_turnOf.2.1 143 = .ok (.iload_n 2, 1) := by decide +kernel
theorem d_MD_turnOf_144 : decode Y_MD_turnOf.2.1 144 = .ok (.iconst (2), 1) := by decide +kernel
theorem d_MD_turnOf_145 : decode Y_MD_turnOf.2.1 145 = .ok (.idiv, 1) := by decide +kernel
theorem d_MD_turnOf_146 : decode Y_MD_turnOf.2.1 146 = .ok (.bipush (81), 2) := by decide +kernel
theorem d_MD_turnOf_148 : decode Y_MD_turnOf.2.1 148 = .ok (.irem, 1) := by decide +kernel
theorem d_MD_turnOf_149 : decode Y_MD_turnOf.2.1 149 = .ok (.bipush (40), 2) := by decide +kernel
theorem d_MD_turnOf_151 : decode Y_MD_turnOf.2.1 151 = .ok (.isub, 1) := by decide +kernel
theorem d_MD_turnOf_152 : decode Y_MD_turnOf.2.1 152 = .ok (.invokestatic 164, 3) := by decide +kernel
theorem d_MD_turnOf_155 : decode Y_MD_turnOf.2.1 155 = .ok (.pop, 1) := by decide +kernel
theorem d_MD_turnOf_156 : decode Y_MD_turnOf.2.1 156 = .ok (.goto (74), 3) := by decide +kernel
theorem d_MD_turnOf_159 : decode Y_MD_turnOf.2.1 159 = .ok (.iload_n 1, 1) := by decide +kernel
theorem d_MD_turnOf_160 : decode Y_MD_turnOf.2.1 160 = .ok (.iconst (3), 1) := by decide +kernel
theorem d_MD_turnOf_161 : decode Y_MD_turnOf.2.1 161 = .ok (.if_icmp .ne (38), 3) := by decide +kernel
theorem d_MD_turnOf_164 : decode Y_MD_turnOf.2.1 164 = .ok (.aload_n 0, 1) := by decide +kernel
theorem d_MD_turnOf_165 : decode Y_MD_turnOf.2.1 165 = .ok (.iload_n 2, 1) := by decide +kernel
theorem d_MD_turnOf_166 : decode Y_MD_turnOf.2.1 166 = .ok (.iconst (4), 1) := by decide +kernel
theorem d_MD_turnOf_167 : decode Y_MD_turnOf.2.1 167 = .ok (.irem, 1) := by decide +kernel
theorem d_MD_turnOf_168 : decode Y_MD_turnOf.2.1 168 = .ok (.invokestatic 168, 3) := by decide +kernel
theorem d_MD_turnOf_171 : decode Y_MD_turnOf.2.1 171 = .ok (.ifCond .eq (59), 3) := by decide +kernel
theorem d_MD_turnOf_174 : decode Y_MD_turnOf.2.1 174 = .ok (.aload_n 0, 1) := by decide +kernel
theorem d_MD_turnOf_175 : decode Y_MD_turnOf.2.1 175 = .ok (.iload_n 2, 1) := by decide +kernel
theorem d_MD_turnOf_176 : decode Y_MD_turnOf.2.1 176 = .ok (.iconst (4), 1) := by decide +kernel
theorem d_MD_turnOf_177 : decode Y_MD_turnOf.2.1 177 = .ok (.irem, 1) := by decide +kernel
theorem d_MD_turnOf_178 : decode Y_MD_turnOf.2.1 178 = .ok (.iload_n 2, 1) := by decide +kernel
theorem d_MD_turnOf_179 : decode Y_MD_turnOf.2.1 179 = .ok (.iconst (4), 1) := by decide +kernel
theorem d_MD_turnOf_180 : decode Y_MD_turnOf.2.1 180 = .ok (.idiv, 1) := by decide +kernel
theorem d_MD_turnOf_181 : decode Y_MD_turnOf.2.1 181 = .ok (.iconst (2), 1) := by decide +kernel
theorem d_MD_turnOf_182 : decode Y_MD_turnOf.2.1 182 = .ok (.irem, 1) := by decide +kernel
theorem d_MD_turnOf_183 : decode Y_MD_turnOf.2.1 183 = .ok (.iconst (1), 1) := by decide +kernel
theorem d_MD_turnOf_184 : decode Y_MD_turnOf.2.1 184 = .ok (.if_icmp .ne (7), 3) := by decide +kernel
theorem d_MD_turnOf_187 : decode Y_MD_turnOf.2.1 187 = .ok (.iconst (1), 1) := by decide +kernel
theorem d_MD_turnOf_188 : decode Y_MD_turnOf.2.1 188 = .ok (.goto (4), 3) := by decide +kernel
theorem d_MD_turnOf_191 : decode Y_MD_turnOf.2.1 191 = .ok (.iconst (0), 1) := by decide +kernel
theorem d_MD_turnOf_192 : decode Y_MD_turnOf.2.1 192 = .ok (.invokestatic 171, 3) := by decide +kernel
theorem d_MD_turnOf_195 : decode Y_MD_turnOf.2.1 195 = .ok (.pop, 1) := by decide +kernel
theorem d_MD_turnOf_196 : decode Y_MD_turnOf.2.1 196 = .ok (.goto (34), 3) := by decide +kernel
theorem d_MD_turnOf_199 : decode Y_MD_turnOf.2.1 199 = .ok (.iload_n 1, 1) := by decide +kernel
theorem d_MD_turnOf_200 : decode Y_MD_turnOf.2.1 200 = .ok (.iconst (4), 1) := by decide +kernel
theorem d_MD_turnOf_201 : decode Y_MD_turnOf.2.1 201 = .ok (.if_icmp .ne (18), 3) := by decide +kernel
theorem d_MD_turnOf_204 : decode Y_MD_turnOf.2.1 204 = .ok (.aload_n 0, 1) := by decide +kernel
theorem d_MD_turnOf_205 : decode Y_MD_turnOf.2.1 205 = .ok (.iconst (0), 1) := by decide +kernel
theorem d_MD_turnOf_206 : decode Y_MD_turnOf.2.1 206 = .ok (.iconst (1), 1) := by decide +kernel
theorem d_MD_turnOf_207 : decode Y_MD_turnOf.2.1 207 = .ok (.iload_n 2, 1) := by decide +kernel
theorem d_MD_turnOf_208 : decode Y_MD_turnOf.2.1 208 = .ok (.bipush (9), 2) := by decide +kernel
theorem d_MD_turnOf_210 : decode Y_MD_turnOf.2.1 210 = .ok (.irem, 1) := by decide +kernel
theorem d_MD_turnOf_211 : decode Y_MD_turnOf.2.1 211 = .ok (.iadd, 1) := by decide +kernel
theorem d_MD_turnOf_212 : decode Y_MD_turnOf.2.1 212 = .ok (.invokestatic 175, 3) := by decide +kernel
theorem d_MD_turnOf_215 : decode Y_MD_turnOf.2.1 215 = .ok (.pop, 1) := by decide +kernel
theorem d_MD_turnOf_216 : decode Y_MD_turnOf.2.1 216 = .ok (.goto (14), 3) := by decide +kernel
theorem d_MD_turnOf_219 : decode Y_MD_turnOf.2.1 219 = .ok (.aload_n 0, 1) := by decide +kernel
theorem d_MD_turnOf_220 : decode Y_MD_turnOf.2.1 220 = .ok (.iconst (1), 1) := by decide +kernel
theorem d_MD_turnOf_221 : decode Y_MD_turnOf.2.1 221 = .ok (.iload_n 2, 1) := by decide +kernel
theorem d_MD_turnOf_222 : decode Y_MD_turnOf.2.1 222 = .ok (.bipush (12), 2) := by decide +kernel
theorem d_MD_turnOf_224 : decode Y_MD_turnOf.2.1 224 = .ok (.irem, 1) := by decide +kernel
theorem d_MD_turnOf_225 : decode Y_MD_turnOf.2.1 225 = .ok (.iadd, 1) := by decide +kernel
theorem d_MD_turnOf_226 : decode Y_MD_turnOf.2.1 226 = .ok (.invokestatic 178, 3) := by decide +kernel
theorem d_MD_turnOf_229 : decode Y_MD_turnOf.2.1 229 = .ok (.pop, 1) := by decide +kernel
theorem d_MD_turnOf_230 : decode Y_MD_turnOf.2.1 230 = .ok (.return_, 1) := by decide +kernel
def f_MD_turnOf (w : zW) (D : zD) (r0 : Nat) (x1 : Int32) (x2 : Int32) : Option (zD) := zjp (fun (D1 : zD) => some D1) (fun j230 => (if x1 = 0 then zald w D 0 r0 (0 : Int32) (fun v18 => (if (4 : Int32) ≤ v18 then j230 D else zci (f_MD_sirenOn w D r0 ((zirem x2 (61 : Int32)) - (30 : Int32)) ((zirem (x2 / (64 : Int32)) (61 : Int32)) - (30 : Int32)) ((1 : Int32) + (zirem (x2 / (4096 : Int32)) (5 : Int32))) ((zirem (x2 / (32768 : Int32)) (7 : Int32)) - (3 : Int32)) ((1 : Int32) + (zirem (x2 / (262144 : Int32)) (20 : Int32)))) (fun v19 D20 => j230 D20))) else (if x1 = (1 : Int32) then zald w D 0 r0 (1 : Int32) (fun v15 => (if (4 : Int32) ≤ v15 then j230 D else zci (f_MD_hearerOn w D r0 ((zirem x2 (81 : Int32)) - (40 : Int32)) ((zirem (x2 / (128 : Int32)) (81 : Int32)) - (40 : Int32)) ((zirem (x2 / (16384 : Int32)) (5 : Int32)) - (2 : Int32)) ((zirem (x2 / (131072 : Int32)) (5 : Int32)) - (2 : Int32))) (fun v16 D17 => j230 D17))) else (if x1 = (2 : Int32) then zald w D 0 r0 (2 : Int32) (fun v11 => (if (3 : Int32) ≤ v11 then j230 D else zjp (fun (s0 : Nat) (s1 : Int32) (D12 : zD) => zci (f_MD_wallOn w D12 s0 s1 ((zirem (x2 / (2 : Int32)) (81 : Int32)) - (40 : Int32))) (fun v13 D14 => j230 D14)) (fun j143 => (if (zirem x2 (2 : Int32)) = (1 : Int32) then j143 r0 (1 : Int32) D else j143 r0 (0 : Int32) D)))) else (if x1 = (3 : Int32) then zci (f_MD_isSiren w D r0 (zirem x2 (4 : Int32))) (fun v6 D7 => (if v6 = 0 then j230 D7 else zjp (fun (s0 : Nat) (s1 : Int32) (s2 : Int32) (D8 : zD) => zci (f_MD_turnOn w D8 s0 s1 s2) (fun v9 D10 => j230 D10)) (fun j192 => (if (zirem (x2 / (4 : Int32)) (2 : Int32)) = (1 : Int32) then j192 r0 (zirem x2 (4 : Int32)) (1 : Int32) D7 else j192 r0 (zirem x2 (4 : Int32)) (0 : Int32) D7)))) else (if x1 = (4 : Int32) then zci (f_MD_change w D r0 (0 : Int32) ((1 : Int32) + (zirem x2 (9 : Int32)))) (fun v4 D5 => j230 D5) else zci (f_MD_ticksOn w D r0 ((1 : Int32) + (zirem x2 (12 : Int32)))) (fun v2 D3 => j230 D3)))))))
set_option maxHeartbeats 4000000 in
set_option maxRecDepth 100000 in
theorem c_MD_turnOf (z : zT) (D : zD) (r0 : Nat) (x1 : Int32) (x2 : Int32) : zM Y_MD_turnOf 6 0 0 (zqV z) (f_MD_turnOf z.2 D r0 x1 x2) [.ref r0, .int x1, .int x2] z D := by
  refine zM_of (plainFor_of_name (by decide +kernel)) rfl (Nat.le_of_ble_eq_true rfl) (fun _ _ _ _ h => nomatch h.1) (fun K => ?_)
  unfold f_MD_turnOf
  refine z_jp (fun j230 : zD → Option (zD) => ∀ (D1 : zD), zGO K Y_MD_turnOf 6 0 0 (zqV z) (j230  D1) 0 0 z D1 230 [] []) (fun  D1 => ?_) (fun j230 h230 => ?_)
  · exact z_vret (pc := 230) d_MD_turnOf_230 rfl
  · refine z_iload_n (pc := 0) d_MD_turnOf_0 rfl 1 rfl ?_
    refine z_if_ne (pc := 1) (tgt := 63) d_MD_turnOf_1 (by decide) ?_ ?_
    · refine z_aload_n (pc := 4) d_MD_turnOf_4 rfl 0 rfl ?_
      refine z_iconst (pc := 5) d_MD_turnOf_5 ki_0 ?_
      refine z_iaload (pc := 6) d_MD_turnOf_6 (fun v18 => ?_)
      refine z_iconst (pc := 7) d_MD_turnOf_7 ki_4 ?_
      refine z_icmp_ge (pc := 8) (tgt := 230) d_MD_turnOf_8 (by decide) ?_ ?_
      · exact z_sub [] rfl (h230 D)
      · refine z_aload_n (pc := 11) d_MD_turnOf_11 rfl 0 rfl ?_
        refine z_iload_n (pc := 12) d_MD_turnOf_12 rfl 2 rfl ?_
        refine z_bipush (pc := 13) d_MD_turnOf_13 kb_61 ?_
        refine z_iremK (pc := 15) d_MD_turnOf_15 (by decide) ?_
        refine z_bipush (pc := 16) d_MD_turnOf_16 kb_30 ?_
        refine z_isub (pc := 18) d_MD_turnOf_18 ?_
        refine z_iload_n (pc := 19) d_MD_turnOf_19 rfl 2 rfl ?_
        refine z_bipush (pc := 20) d_MD_turnOf_20 kb_64 ?_
        refine z_idivK (pc := 22) d_MD_turnOf_22 (by decide) ?_
        refine z_bipush (pc := 23) d_MD_turnOf_23 kb_61 ?_
        refine z_iremK (pc := 25) d_MD_turnOf_25 (by decide) ?_
        refine z_bipush (pc := 26) d_MD_turnOf_26 kb_30 ?_
        refine z_isub (pc := 28) d_MD_turnOf_28 ?_
        refine z_iconst (pc := 29) d_MD_turnOf_29 ki_1 ?_
        refine z_iload_n (pc := 30) d_MD_turnOf_30 rfl 2 rfl ?_
        refine z_sipush (pc := 31) d_MD_turnOf_31 ks_4096 ?_
        refine z_idivK (pc := 34) d_MD_turnOf_34 (by decide) ?_
        refine z_iconst (pc := 35) d_MD_turnOf_35 ki_5 ?_
        refine z_iremK (pc := 36) d_MD_turnOf_36 (by decide) ?_
        refine z_iadd (pc := 37) d_MD_turnOf_37 ?_
        refine z_iload_n (pc := 38) d_MD_turnOf_38 rfl 2 rfl ?_
        refine z_ldc (pc := 39) w_k_MD_239 d_MD_turnOf_39 ?_
        refine z_idivK (pc := 41) d_MD_turnOf_41 (by decide) ?_
        refine z_bipush (pc := 42) d_MD_turnOf_42 kb_7 ?_
        refine z_iremK (pc := 44) d_MD_turnOf_44 (by decide) ?_
        refine z_iconst (pc := 45) d_MD_turnOf_45 ki_3 ?_
        refine z_isub (pc := 46) d_MD_turnOf_46 ?_
        refine z_iconst (pc := 47) d_MD_turnOf_47 ki_1 ?_
        refine z_iload_n (pc := 48) d_MD_turnOf_48 rfl 2 rfl ?_
        refine z_ldc (pc := 49) w_k_MD_240 d_MD_turnOf_49 ?_
        refine z_idivK (pc := 51) d_MD_turnOf_51 (by decide) ?_
        refine z_bipush (pc := 52) d_MD_turnOf_52 kb_20 ?_
        refine z_iremK (pc := 54) d_MD_turnOf_54 (by decide) ?_
        refine z_iadd (pc := 55) d_MD_turnOf_55 ?_
        refine z_callSi (pc := 56) [.ref r0, .int ((zirem x2 (61 : Int32)) - (30 : Int32)), .int ((zirem (x2 / (64 : Int32)) (61 : Int32)) - (30 : Int32)), .int ((1 : Int32) + (zirem (x2 / (4096 : Int32)) (5 : Int32))), .int ((zirem (x2 / (32768 : Int32)) (7 : Int32)) - (3 : Int32)), .int ((1 : Int32) + (zirem (x2 / (262144 : Int32)) (20 : Int32)))] lkS_MD_141 (c_MD_sirenOn z D r0 ((zirem x2 (61 : Int32)) - (30 : Int32)) ((zirem (x2 / (64 : Int32)) (61 : Int32)) - (30 : Int32)) ((1 : Int32) + (zirem (x2 / (4096 : Int32)) (5 : Int32))) ((zirem (x2 / (32768 : Int32)) (7 : Int32)) - (3 : Int32)) ((1 : Int32) + (zirem (x2 / (262144 : Int32)) (20 : Int32)))) (by decide) rfl rfl (Nat.le_of_ble_eq_true rfl) d_MD_turnOf_56 (fun v19 D20 => ?_)
        refine z_pop (pc := 59) d_MD_turnOf_59 rfl ?_
        refine z_goto (pc := 60) (tgt := 230) d_MD_turnOf_60 (by decide) ?_
        exact z_sub [] rfl (h230 D20)
    · refine z_iload_n (pc := 63) d_MD_turnOf_63 rfl 1 rfl ?_
      refine z_iconst (pc := 64) d_MD_turnOf_64 ki_1 ?_
      refine z_icmp_ne (pc := 65) (tgt := 118) d_MD_turnOf_65 (by decide) ?_ ?_
      · refine z_aload_n (pc := 68) d_MD_turnOf_68 rfl 0 rfl ?_
        refine z_iconst (pc := 69) d_MD_turnOf_69 ki_1 ?_
        refine z_iaload (pc := 70) d_MD_turnOf_70 (fun v15 => ?_)
        refine z_iconst (pc := 71) d_MD_turnOf_71 ki_4 ?_
        refine z_icmp_ge (pc := 72) (tgt := 230) d_MD_turnOf_72 (by decide) ?_ ?_
        · exact z_sub [] rfl (h230 D)
        · refine z_aload_n (pc := 75) d_MD_turnOf_75 rfl 0 rfl ?_
          refine z_iload_n (pc := 76) d_MD_turnOf_76 rfl 2 rfl ?_
          refine z_bipush (pc := 77) d_MD_turnOf_77 kb_81 ?_
          refine z_iremK (pc := 79) d_MD_turnOf_79 (by decide) ?_
          refine z_bipush (pc := 80) d_MD_turnOf_80 kb_40 ?_
          refine z_isub (pc := 82) d_MD_turnOf_82 ?_
          refine z_iload_n (pc := 83) d_MD_turnOf_83 rfl 2 rfl ?_
          refine z_sipush (pc := 84) d_MD_turnOf_84 ks_128 ?_
          refine z_idivK (pc := 87) d_MD_turnOf_87 (by decide) ?_
          refine z_bipush (pc := 88) d_MD_turnOf_88 kb_81 ?_
          refine z_iremK (pc := 90) d_MD_turnOf_90 (by decide) ?_
          refine z_bipush (pc := 91) d_MD_turnOf_91 kb_40 ?_
          refine z_isub (pc := 93) d_MD_turnOf_93 ?_
          refine z_iload_n (pc := 94) d_MD_turnOf_94 rfl 2 rfl ?_
          refine z_sipush (pc := 95) d_MD_turnOf_95 ks_16384 ?_
          refine z_idivK (pc := 98) d_MD_turnOf_98 (by decide) ?_
          refine z_iconst (pc := 99) d_MD_turnOf_99 ki_5 ?_
          refine z_iremK (pc := 100) d_MD_turnOf_100 (by decide) ?_
          refine z_iconst (pc := 101) d_MD_turnOf_101 ki_2 ?_
          refine z_isub (pc := 102) d_MD_turnOf_102 ?_
          refine z_iload_n (pc := 103) d_MD_turnOf_103 rfl 2 rfl ?_
          refine z_ldc (pc := 104) w_k_MD_241 d_MD_turnOf_104 ?_
          refine z_idivK (pc := 106) d_MD_turnOf_106 (by decide) ?_
          refine z_iconst (pc := 107) d_MD_turnOf_107 ki_5 ?_
          refine z_iremK (pc := 108) d_MD_turnOf_108 (by decide) ?_
          refine z_iconst (pc := 109) d_MD_turnOf_109 ki_2 ?_
          refine z_isub (pc := 110) d_MD_turnOf_110 ?_
          refine z_callSi (pc := 111) [.ref r0, .int ((zirem x2 (81 : Int32)) - (40 : Int32)), .int ((zirem (x2 / (128 : Int32)) (81 : Int32)) - (40 : Int32)), .int ((zirem (x2 / (16384 : Int32)) (5 : Int32)) - (2 : Int32)), .int ((zirem (x2 / (131072 : Int32)) (5 : Int32)) - (2 : Int32))] lkS_MD_149 (c_MD_hearerOn z D r0 ((zirem x2 (81 : Int32)) - (40 : Int32)) ((zirem (x2 / (128 : Int32)) (81 : Int32)) - (40 : Int32)) ((zirem (x2 / (16384 : Int32)) (5 : Int32)) - (2 : Int32)) ((zirem (x2 / (131072 : Int32)) (5 : Int32)) - (2 : Int32))) (by decide) rfl rfl (Nat.le_of_ble_eq_true rfl) d_MD_turnOf_111 (fun v16 D17 => ?_)
          refine z_pop (pc := 114) d_MD_turnOf_114 rfl ?_
          refine z_goto (pc := 115) (tgt := 230) d_MD_turnOf_115 (by decide) ?_
          exact z_sub [] rfl (h230 D17)
      · refine z_iload_n (pc := 118) d_MD_turnOf_118 rfl 1 rfl ?_
        refine z_iconst (pc := 119) d_MD_turnOf_119 ki_2 ?_
        refine z_icmp_ne (pc := 120) (tgt := 159) d_MD_turnOf_120 (by decide) ?_ ?_
        · refine z_aload_n (pc := 123) d_MD_turnOf_123 rfl 0 rfl ?_
          refine z_iconst (pc := 124) d_MD_turnOf_124 ki_2 ?_
          refine z_iaload (pc := 125) d_MD_turnOf_125 (fun v11 => ?_)
          refine z_iconst (pc := 126) d_MD_turnOf_126 ki_3 ?_
          refine z_icmp_ge (pc := 127) (tgt := 230) d_MD_turnOf_127 (by decide) ?_ ?_
          · exact z_sub [] rfl (h230 D)
          · refine z_jp (fun j143 : Nat → Int32 → zD → Option (zD) => ∀ (s0 : Nat) (s1 : Int32) (D12 : zD), zGO K Y_MD_turnOf 6 0 0 (zqV z) (j143 s0 s1 D12) 0 0 z D12 143 [(2, .int x2)] [.int s1, .ref s0]) (fun s0 s1 D12 => ?_) (fun j143 h143 => ?_)
            · refine z_iload_n (pc := 143) d_MD_turnOf_143 rfl 0 rfl ?_
              refine z_iconst (pc := 144) d_MD_turnOf_144 ki_2 ?_
              refine z_idivK (pc := 145) d_MD_turnOf_145 (by decide) ?_
              refine z_bipush (pc := 146) d_MD_turnOf_146 kb_81 ?_
              refine z_iremK (pc := 148) d_MD_turnOf_148 (by decide) ?_
              refine z_bipush (pc := 149) d_MD_turnOf_149 kb_40 ?_
              refine z_isub (pc := 151) d_MD_turnOf_151 ?_
              refine z_callSi (pc := 152) [.ref s0, .int s1, .int ((zirem (x2 / (2 : Int32)) (81 : Int32)) - (40 : Int32))] lkS_MD_164 (c_MD_wallOn z D12 s0 s1 ((zirem (x2 / (2 : Int32)) (81 : Int32)) - (40 : Int32))) (by decide) rfl rfl (Nat.le_of_ble_eq_true rfl) d_MD_turnOf_152 (fun v13 D14 => ?_)
              refine z_pop (pc := 155) d_MD_turnOf_155 rfl ?_
              refine z_goto (pc := 156) (tgt := 230) d_MD_turnOf_156 (by decide) ?_
              exact z_sub [] rfl (h230 D14)
            · refine z_aload_n (pc := 130) d_MD_turnOf_130 rfl 0 rfl ?_
              refine z_iload_n (pc := 131) d_MD_turnOf_131 rfl 2 rfl ?_
              refine z_iconst (pc := 132) d_MD_turnOf_132 ki_2 ?_
              refine z_iremK (pc := 133) d_MD_turnOf_133 (by decide) ?_
              refine z_iconst (pc := 134) d_MD_turnOf_134 ki_1 ?_
              refine z_icmp_ne (pc := 135) (tgt := 142) d_MD_turnOf_135 (by decide) ?_ ?_
              · refine z_iconst (pc := 138) d_MD_turnOf_138 ki_1 ?_
                refine z_goto (pc := 139) (tgt := 143) d_MD_turnOf_139 (by decide) ?_
                exact z_sub [2] rfl (h143 r0 (1 : Int32) D)
              · refine z_iconst (pc := 142) d_MD_turnOf_142 ki_0 ?_
                exact z_sub [2] rfl (h143 r0 (0 : Int32) D)
        · refine z_iload_n (pc := 159) d_MD_turnOf_159 rfl 1 rfl ?_
          refine z_iconst (pc := 160) d_MD_turnOf_160 ki_3 ?_
          refine z_icmp_ne (pc := 161) (tgt := 199) d_MD_turnOf_161 (by decide) ?_ ?_
          · refine z_aload_n (pc := 164) d_MD_turnOf_164 rfl 0 rfl ?_
            refine z_iload_n (pc := 165) d_MD_turnOf_165 rfl 2 rfl ?_
            refine z_iconst (pc := 166) d_MD_turnOf_166 ki_4 ?_
            refine z_iremK (pc := 167) d_MD_turnOf_167 (by decide) ?_
            refine z_callSi (pc := 168) [.ref r0, .int (zirem x2 (4 : Int32))] lkS_MD_168 (c_MD_isSiren z D r0 (zirem x2 (4 : Int32))) (by decide) rfl rfl (Nat.le_of_ble_eq_true rfl) d_MD_turnOf_168 (fun v6 D7 => ?_)
            refine z_if_eq (pc := 171) (tgt := 230) d_MD_turnOf_171 (by decide) ?_ ?_
            · exact z_sub [] rfl (h230 D7)
            · refine z_jp (fun j192 : Nat → Int32 → Int32 → zD → Option (zD) => ∀ (s0 : Nat) (s1 : Int32) (s2 : Int32) (D8 : zD), zGO K Y_MD_turnOf 6 0 0 (zqV z) (j192 s0 s1 s2 D8) 0 0 z D8 192 [] [.int s2, .int s1, .ref s0]) (fun s0 s1 s2 D8 => ?_) (fun j192 h192 => ?_)
              · refine z_callSi (pc := 192) [.ref s0, .int s1, .int s2] lkS_MD_171 (c_MD_turnOn z D8 s0 s1 s2) (by decide) rfl rfl (Nat.le_of_ble_eq_true rfl) d_MD_turnOf_192 (fun v9 D10 => ?_)
                refine z_pop (pc := 195) d_MD_turnOf_195 rfl ?_
                refine z_goto (pc := 196) (tgt := 230) d_MD_turnOf_196 (by decide) ?_
                exact z_sub [] rfl (h230 D10)
              · refine z_aload_n (pc := 174) d_MD_turnOf_174 rfl 0 rfl ?_
                refine z_iload_n (pc := 175) d_MD_turnOf_175 rfl 2 rfl ?_
                refine z_iconst (pc := 176) d_MD_turnOf_176 ki_4 ?_
                refine z_iremK (pc := 177) d_MD_turnOf_177 (by decide) ?_
                refine z_iload_n (pc := 178) d_MD_turnOf_178 rfl 2 rfl ?_
                refine z_iconst (pc := 179) d_MD_turnOf_179 ki_4 ?_
                refine z_idivK (pc := 180) d_MD_turnOf_180 (by decide) ?_
                refine z_iconst (pc := 181) d_MD_turnOf_181 ki_2 ?_
                refine z_iremK (pc := 182) d_MD_turnOf_182 (by decide) ?_
                refine z_iconst (pc := 183) d_MD_turnOf_183 ki_1 ?_
                refine z_icmp_ne (pc := 184) (tgt := 191) d_MD_turnOf_184 (by decide) ?_ ?_
                · refine z_iconst (pc := 187) d_MD_turnOf_187 ki_1 ?_
                  refine z_goto (pc := 188) (tgt := 192) d_MD_turnOf_188 (by decide) ?_
                  exact z_sub [] rfl (h192 r0 (zirem x2 (4 : Int32)) (1 : Int32) D7)
                · refine z_iconst (pc := 191) d_MD_turnOf_191 ki_0 ?_
                  exact z_sub [] rfl (h192 r0 (zirem x2 (4 : Int32)) (0 : Int32) D7)
          · refine z_iload_n (pc := 199) d_MD_turnOf_199 rfl 1 rfl ?_
            refine z_iconst (pc := 200) d_MD_turnOf_200 ki_4 ?_
            refine z_icmp_ne (pc := 201) (tgt := 219) d_MD_turnOf_201 (by decide) ?_ ?_
            · refine z_aload_n (pc := 204) d_MD_turnOf_204 rfl 0 rfl ?_
              refine z_iconst (pc := 205) d_MD_turnOf_205 ki_0 ?_
              refine z_iconst (pc := 206) d_MD_turnOf_206 ki_1 ?_
              refine z_iload_n (pc := 207) d_MD_turnOf_207 rfl 2 rfl ?_
              refine z_bipush (pc := 208) d_MD_turnOf_208 kb_9 ?_
              refine z_iremK (pc := 210) d_MD_turnOf_210 (by decide) ?_
              refine z_iadd (pc := 211) d_MD_turnOf_211 ?_
              refine z_callSi (pc := 212) [.ref r0, .int (0 : Int32), .int ((1 : Int32) + (zirem x2 (9 : Int32)))] lkS_MD_175 (c_MD_change z D r0 (0 : Int32) ((1 : Int32) + (zirem x2 (9 : Int32)))) (by decide) rfl rfl (Nat.le_of_ble_eq_true rfl) d_MD_turnOf_212 (fun v4 D5 => ?_)
              refine z_pop (pc := 215) d_MD_turnOf_215 rfl ?_
              refine z_goto (pc := 216) (tgt := 230) d_MD_turnOf_216 (by decide) ?_
              exact z_sub [] rfl (h230 D5)
            · refine z_aload_n (pc := 219) d_MD_turnOf_219 rfl 0 rfl ?_
              refine z_iconst (pc := 220) d_MD_turnOf_220 ki_1 ?_
              refine z_iload_n (pc := 221) d_MD_turnOf_221 rfl 2 rfl ?_
              refine z_bipush (pc := 222) d_MD_turnOf_222 kb_12 ?_
              refine z_iremK (pc := 224) d_MD_turnOf_224 (by decide) ?_
              refine z_iadd (pc := 225) d_MD_turnOf_225 ?_
              refine z_callSi (pc := 226) [.ref r0, .int ((1 : Int32) + (zirem x2 (12 : Int32)))] lkS_MD_178 (c_MD_ticksOn z D r0 ((1 : Int32) + (zirem x2 (12 : Int32)))) (by decide) rfl rfl (Nat.le_of_ble_eq_true rfl) d_MD_turnOf_226 (fun v2 D3 => ?_)
              refine z_pop (pc := 229) d_MD_turnOf_229 rfl ?_
              exact z_sub [] rfl (h230 D3)
theorem d_MD_readText_0 : decode Y_MD_readText.2.1 0 = .ok (.aload_n 1, 1) := by decide +kernel
theorem d_MD_readText_1 : decode Y_MD_readText.2.1 1 = .ok (.invokestatic 29, 3) := by decide +kernel
theorem d_MD_readText_4 : decode Y_MD_readText.2.1 4 = .ok (.aload_n 0, 1) := by decide +kernel
theorem d_MD_readText_5 : decode Y_MD_readText.2.1 5 = .ok (.iconst (0), 1) := by decide +kernel
theorem d_MD_readText_6 : decode Y_MD_readText.2.1 6 = .ok (.putfield 134, 3) := by decide +kernel
theorem d_MD_readText_9 : decode Y_MD_readText.2.1 9 = .ok (.aload_n 0, 1) := by decide +kernel
theorem d_MD_readText_10 : decode Y_MD_readText.2.1 10 = .ok (.iconst (0), 1) := by decide +kernel
theorem d_MD_readText_11 : decode Y_MD_readText.2.1 11 = .ok (.putfield 131, 3) := by decide +kernel
theorem d_MD_readText_14 : decode Y_MD_readText.2.1 14 = .ok (.aload_n 0, 1) := by decide +kernel
theorem d_MD_readText_15 : decode Y_MD_readText.2.1 15 = .ok (.getfield 124, 3) := by decide +kernel
theorem d_MD_readText_18 : decode Y_MD_readText.2.1 18 = .ok (.ifCond .eq (14), 3) := by decide +kernel
theorem d_MD_readText_21 : decode Y_MD_readText.2.1 21 = .ok (.aload_n 0, 1) := by decide +kernel
theorem d_MD_readText_22 : decode Y_MD_readText.2.1 22 = .ok (.getfield 7, 3) := by decide +kernel
theorem d_MD_readText_25 : decode Y_MD_readText.2.1 25 = .ok (.iconst (0), 1) := by decide +kernel
theorem d_MD_readText_26 : decode Y_MD_readText.2.1 26 = .ok (.iaload, 1) := by decide +kernel
theorem d_MD_readText_27 : decode Y_MD_readText.2.1 27 = .ok (.bipush (85), 2) := by decide +kernel
theorem d_MD_readText_29 : decode Y_MD_readText.2.1 29 = .ok (.if_icmp .eq (5), 3) := by decide +kernel
theorem d_MD_readText_32 : decode Y_MD_readText.2.1 32 = .ok (.iconst (0), 1) := by decide +kernel
theorem d_MD_readText_33 : decode Y_MD_readText.2.1 33 = .ok (.ireturn, 1) := by decide +kernel
theorem d_MD_readText_34 : decode Y_MD_readText.2.1 34 = .ok (.aload_n 0, 1) := by decide +kernel
theorem d_MD_readText_35 : decode Y_MD_readText.2.1 35 = .ok (.iconst (1), 1) := by decide +kernel
theorem d_MD_readText_36 : decode Y_MD_readText.2.1 36 = .ok (.putfield 131, 3) := by decide +kernel
theorem d_MD_readText_39 : decode Y_MD_readText.2.1 39 = .ok (.aload_n 0, 1) := by decide +kernel
theorem d_MD_readText_40 : decode Y_MD_readText.2.1 40 = .ok (.getfield 131, 3) := by decide +kernel
theorem d_MD_readText_43 : decode Y_MD_readText.2.1 43 = .ok (.aload_n 0, 1) := by decide +kernel
theorem d_MD_readText_44 : decode Y_MD_readText.2.1 44 = .ok (.getfield 124, 3) := by decide +kernel
theorem d_MD_readText_47 : decode Y_MD_readText.2.1 47 = .ok (.if_icmp .ge (16), 3) := by decide +kernel
theorem d_MD_readText_50 : decode Y_MD_readText.2.1 50 = .ok (.aload_n 0, 1) := by decide +kernel
theorem d_MD_readText_51 : decode Y_MD_readText.2.1 51 = .ok (.aload_n 1, 1) := by decide +kernel
theorem d_MD_readText_52 : decode Y_MD_readText.2.1 52 = .ok (.invokevirtual 181, 3) := by decide +kernel
theorem d_MD_readText_55 : decode Y_MD_readText.2.1 55 = .ok (.ifCond .ne (-16), 3) := by decide +kernel
theorem d_MD_readText_58 : decode Y_MD_readText.2.1 58 = .ok (.aload_n 0, 1) := by decide +kernel
theorem d_MD_readText_59 : decode Y_MD_readText.2.1 59 = .ok (.getfield 131, 3) := by decide +kernel
theorem d_MD_readText_62 : decode Y_MD_readText.2.1 62 = .ok (.ireturn, 1) := by decide +kernel
theorem d_MD_readText_63 : decode Y_MD_readText.2.1 63 = .ok (.iconst (-1), 1) := by decide +kernel
theorem d_MD_readText_64 : decode Y_MD_readText.2.1 64 = .ok (.ireturn, 1) := by decide +kernel
def f_MD_readText (w : zW) (D : zD) (a : Nat) (r1 : Nat) : Option (Int32 × zD) := zjp (fun (D1 : zD) => some ((0 : Int32), D1)) (fun j32 => zcv (f_MD_clear w D r1) (fun D2 => zput w D2 8 10 a (0 : Int32) (fun D3 => zput w D3 8 9 a (0 : Int32) (fun D4 => zfld w D4 8 2 a (fun v5 => (if v5 = 0 then j32 D4 else zref w 8 1 a (fun p6 => zald w D4 0 p6 (0 : Int32) (fun v7 => (if v7 = (85 : Int32) then zjp (zlp (fun (_ : zD) => none) (fun (j39 : zD → Option (Int32 × zD)) (D8 : zD) => zfld w D8 8 9 a (fun v9 => zfld w D8 8 2 a (fun v10 => (if v10 ≤ v9 then some ((-1 : Int32), D8) else zobj w 8 a (zci (f_MD_readCommand w D8 a r1) (fun v11 D12 => (if v11 = 0 then zfld w D12 8 9 a (fun v13 => some (v13, D12)) else j39 D12))))))) zfuel) (fun j39 => zput w D4 8 9 a (1 : Int32) (fun D14 => j39 D14)) else j32 D4)))))))))
set_option maxHeartbeats 4000000 in
set_option maxRecDepth 100000 in
theorem c_MD_readText (z : zT) (D : zD) (a : Nat) (r1 : Nat) : zM Y_MD_readText 7 0 0 (zqI z) (f_MD_readText z.2 D a r1) [.ref a, .ref r1] z D := by
  refine zM_of (plainFor_of_name (by decide +kernel)) rfl (Nat.le_of_ble_eq_true rfl) (fun _ _ _ _ h => nomatch h.1) (fun K => ?_)
  unfold f_MD_readText
  refine z_jp (fun j32 : zD → Option (Int32 × zD) => ∀ (D1 : zD), zGO K Y_MD_readText 7 0 0 (zqI z) (j32  D1) 0 0 z D1 32 [] []) (fun  D1 => ?_) (fun j32 h32 => ?_)
  · refine z_iconst (pc := 32) d_MD_readText_32 ki_0 ?_
    exact z_iret (pc := 33) d_MD_readText_33 rfl
  · refine z_aload_n (pc := 0) d_MD_readText_0 rfl 1 rfl ?_
    refine z_callSv (pc := 1) [.ref r1] lkS_MD_29 (c_MD_clear z D r1) (by decide) rfl rfl (Nat.le_of_ble_eq_true rfl) d_MD_readText_1 (fun D2 => ?_)
    refine z_aload_n (pc := 4) d_MD_readText_4 rfl 0 rfl ?_
    refine z_iconst (pc := 5) d_MD_readText_5 ki_0 ?_
    refine z_putI (pc := 6) fl_MD_134 d_MD_readText_6 (fun D3 => ?_)
    refine z_aload_n (pc := 9) d_MD_readText_9 rfl 0 rfl ?_
    refine z_iconst (pc := 10) d_MD_readText_10 ki_0 ?_
    refine z_putI (pc := 11) fl_MD_131 d_MD_readText_11 (fun D4 => ?_)
    refine z_aload_n (pc := 14) d_MD_readText_14 rfl 0 rfl ?_
    refine z_getI (pc := 15) fl_MD_124 d_MD_readText_15 (fun v5 => ?_)
    refine z_if_eq (pc := 18) (tgt := 32) d_MD_readText_18 (by decide) ?_ ?_
    · exact z_sub [] rfl (h32 D4)
    · refine z_aload_n (pc := 21) d_MD_readText_21 rfl 0 rfl ?_
      refine z_getR (pc := 22) fl_MD_7 d_MD_readText_22 (fun p6 => ?_)
      refine z_iconst (pc := 25) d_MD_readText_25 ki_0 ?_
      refine z_iaload (pc := 26) d_MD_readText_26 (fun v7 => ?_)
      refine z_bipush (pc := 27) d_MD_readText_27 kb_85 ?_
      refine z_icmp_eq (pc := 29) (tgt := 34) d_MD_readText_29 (by decide) ?_ ?_
      · refine z_jp (fun j39 : zD → Option (Int32 × zD) => ∀ (D8 : zD), zGO K Y_MD_readText 7 0 0 (zqI z) (j39  D8) 0 0 z D8 39 [(0, .ref a), (1, .ref r1)] []) (z_lp (fun j39 : zD → Option (Int32 × zD) => ∀ (D8 : zD), zGO K Y_MD_readText 7 0 0 (zqI z) (j39  D8) 0 0 z D8 39 [(0, .ref a), (1, .ref r1)] []) (fun  _ => z_none) (fun j39 h39  D8 => ?_) zfuel) (fun j39 h39 => ?_)
        · refine z_aload_n (pc := 39) d_MD_readText_39 rfl 0 rfl ?_
          refine z_getI (pc := 40) fl_MD_131 d_MD_readText_40 (fun v9 => ?_)
          refine z_aload_n (pc := 43) d_MD_readText_43 rfl 0 rfl ?_
          refine z_getI (pc := 44) fl_MD_124 d_MD_readText_44 (fun v10 => ?_)
          refine z_icmp_ge (pc := 47) (tgt := 63) d_MD_readText_47 (by decide) ?_ ?_
          · refine z_iconst (pc := 63) d_MD_readText_63 ki_m1 ?_
            exact z_iret (pc := 64) d_MD_readText_64 rfl
          · refine z_aload_n (pc := 50) d_MD_readText_50 rfl 0 rfl ?_
            refine z_aload_n (pc := 51) d_MD_readText_51 rfl 1 rfl ?_
            refine z_callVi (pc := 52) [.ref r1] lkV_MD_181 rfl (c_MD_readCommand z D8 a r1) (by decide) rfl rfl (Nat.le_of_ble_eq_true rfl) d_MD_readText_52 (fun v11 D12 => ?_)
            refine z_if_ne (pc := 55) (tgt := 39) d_MD_readText_55 (by decide) ?_ ?_
            · refine z_aload_n (pc := 58) d_MD_readText_58 rfl 0 rfl ?_
              refine z_getI (pc := 59) fl_MD_131 d_MD_readText_59 (fun v13 => ?_)
              exact z_iret (pc := 62) d_MD_readText_62 rfl
            · exact z_sub [0, 1] rfl (h39 D12)
        · refine z_aload_n (pc := 34) d_MD_readText_34 rfl 0 rfl ?_
          refine z_iconst (pc := 35) d_MD_readText_35 ki_1 ?_
          refine z_putI (pc := 36) fl_MD_131 d_MD_readText_36 (fun D14 => ?_)
          exact z_sub [0, 1] rfl (h39 D14)
      · exact z_sub [] rfl (h32 D4)
theorem d_MD_runScript_0 : decode Y_MD_runScript.2.1 0 = .ok (.lconst 1, 1) := by decide +kernel
theorem d_MD_runScript_1 : decode Y_MD_runScript.2.1 1 = .ok (.lstore 4, 2) := by decide +kernel
theorem d_MD_runScript_3 : decode Y_MD_runScript.2.1 3 = .ok (.iconst (0), 1) := by decide +kernel
theorem d_MD_runScript_4 : decode Y_MD_runScript.2.1 4 = .ok (.istore 6, 2) := by decide +kernel
theorem d_MD_runScript_6 : decode Y_MD_runScript.2.1 6 = .ok (.iload 6, 2) := by decide +kernel
theorem d_MD_runScript_8 : decode Y_MD_runScript.2.1 8 = .ok (.iload_n 1, 1) := by decide +kernel
theorem d_MD_runScript_9 : decode Y_MD_runScript.2.1 9 = .ok (.if_icmp .ge (23), 3) := by decide +kernel
theorem d_MD_runScript_12 : decode Y_MD_runScript.2.1 12 = .ok (.iload 6, 2) := by decide +kernel
theorem d_MD_runScript_14 : decode Y_MD_runScript.2.1 14 = .ok (.iconst (3), 1) := by decide +kernel
theorem d_MD_runScript_15 : decode Y_MD_runScript.2.1 15 = .ok (.if_icmp .ge (17), 3) := by decide +kernel
theorem d_MD_runScript_18 : decode Y_MD_runScript.2.1 18 = .ok (.lload 4, 2) := by decide +kernel
theorem d_MD_runScript_20 : decode Y_MD_runScript.2.1 20 = .ok (.ldc2_w 234, 3) := by decide +kernel
theorem d_MD_runScript_23 : decode Y_MD_runScript.2.1 23 = .ok (.lmul, 1) := by decide +kernel
theorem d_MD_runScript_24 : decode Y_MD_runScript.2.1 24 = .ok (.lstore 4, 2) := by decide +kernel
theorem d_MD_runScript_26 : decode Y_MD_runScript.2.1 26 = .ok (.iinc 6 (1), 3) := by decide +kernel
theorem d_MD_runScript_29 : decode Y_MD_runScript.2.1 29 = .ok (.goto (-23), 3) := by decide +kernel
theorem d_MD_runScript_32 : decode Y_MD_runScript.2.1 32 = .ok (.aload_n 0, 1) := by decide +kernel
theorem d_MD_runScript_33 : decode Y_MD_runScript.2.1 33 = .ok (.iload_n 1, 1) := by decide +kernel
theorem d_MD_runScript_34 : decode Y_MD_runScript.2.1 34 = .ok (.i2l, 1) := by decide +kernel
theorem d_MD_runScript_35 : decode Y_MD_runScript.2.1 35 = .ok (.lconst 1, 1) := by decide +kernel
theorem d_MD_runScript_36 : decode Y_MD_runScript.2.1 36 = .ok (.ldc2_w 212, 3) := by decide +kernel
theorem d_MD_runScript_39 : decode Y_MD_runScript.2.1 39 = .ok (.invokestatic 37, 3) := by decide +kernel
theorem d_MD_runScript_42 : decode Y_MD_runScript.2.1 42 = .ok (.ifCond .eq (19), 3) := by decide +kernel
theorem d_MD_runScript_45 : decode Y_MD_runScript.2.1 45 = .ok (.lload_n 2, 1) := by decide +kernel
theorem d_MD_runScript_46 : decode Y_MD_runScript.2.1 46 = .ok (.lconst 0, 1) := by decide +kernel
theorem d_MD_runScript_47 : decode Y_MD_runScript.2.1 47 = .ok (.lload 4, 2) := by decide +kernel
theorem d_MD_runScript_49 : decode Y_MD_runScript.2.1 49 = .ok (.lconst 1, 1) := by decide +kernel
theorem d_MD_runScript_50 : decode Y_MD_runScript.2.1 50 = .ok (.lsub, 1) := by decide +kernel
theorem d_MD_runScript_51 : decode Y_MD_runScript.2.1 51 = .ok (.invokestatic 37, 3) := by decide +kernel
theorem d_MD_runScript_54 : decode Y_MD_runScript.2.1 54 = .ok (.ifCond .eq (7), 3) := by decide +kernel
theorem d_MD_runScript_57 : decode Y_MD_runScript.2.1 57 = .ok (.iconst (0), 1) := by decide +kernel
theorem d_MD_runScript_58 : decode Y_MD_runScript.2.1 58 = .ok (.goto (4), 3) := by decide +kernel
theorem d_MD_runScript_61 : decode Y_MD_runScript.2.1 61 = .ok (.iconst (1), 1) := by decide +kernel
theorem d_MD_runScript_62 : decode Y_MD_runScript.2.1 62 = .ok (.invokevirtual 127, 3) := by decide +kernel
theorem d_MD_runScript_65 : decode Y_MD_runScript.2.1 65 = .ok (.ifCond .eq (5), 3) := by decide +kernel
theorem d_MD_runScript_68 : decode Y_MD_runScript.2.1 68 = .ok (.iconst (0), 1) := by decide +kernel
theorem d_MD_runScript_69 : decode Y_MD_runScript.2.1 69 = .ok (.ireturn, 1) := by decide +kernel
theorem d_MD_runScript_70 : decode Y_MD_runScript.2.1 70 = .ok (.aload_n 0, 1) := by decide +kernel
theorem d_MD_runScript_71 : decode Y_MD_runScript.2.1 71 = .ok (.getfield 13, 3) := by decide +kernel
theorem d_MD_runScript_74 : decode Y_MD_runScript.2.1 74 = .ok (.iconst (0), 1) := by decide +kernel
theorem d_MD_runScript_75 : decode Y_MD_runScript.2.1 75 = .ok (.aload_n 0, 1) := by decide +kernel
theorem d_MD_runScript_76 : decode Y_MD_runScript.2.1 76 = .ok (.getfield 16, 3) := by decide +kernel
theorem d_MD_runScript_79 : decode Y_MD_runScript.2.1 79 = .ok (.iconst (0), 1) := by decide +kernel
theorem d_MD_runScript_80 : decode Y_MD_runScript.2.1 80 = .ok (.invokestatic 188, 3) := by decide +kernel
theorem d_MD_runScript_83 : decode Y_MD_runScript.2.1 83 = .ok (.iconst (0), 1) := by decide +kernel
theorem d_MD_runScript_84 : decode Y_MD_runScript.2.1 84 = .ok (.istore 6, 2) := by decide +kernel
theorem d_MD_runScript_86 : decode Y_MD_runScript.2.1 86 = .ok (.iload 6, 2) := by decide +kernel
theorem d_MD_runScript_88 : decode Y_MD_runScript.2.1 88 = .ok (.iload_n 1, 1) := by decide +kernel
theorem d_MD_runScript_89 : decode Y_MD_runScript.2.1 89 = .ok (.if_icmp .ge (50), 3) := by decide +kernel
theorem d_MD_runScript_92 : decode Y_MD_runScript.2.1 92 = .ok (.lload 4, 2) := by decide +kernel
theorem d_MD_runScript_94 : decode Y_MD_runScript.2.1 94 = .ok (.ldc2_w 234, 3) := by decide +kernel
theorem d_MD_runScript_97 : decode Y_MD_runScript.2.1 97 = .ok (.ldiv, 1) := by decide +kernel
theorem d_MD_runScript_98 : decode Y_MD_runScript.2.1 98 = .ok (.lstore 4, 2) := by decide +kernel
theorem d_MD_runScript_100 : decode Y_MD_runScript.2.1 100 = .ok (.lload_n 2, 1) := by decide +kernel
theorem d_MD_runScript_101 : decode Y_MD_runScript.2.1 101 = .ok (.lload 4, 2) := by decide +kernel
theorem d_MD_runScript_103 : decode Y_MD_runScript.2.1 103 = .ok (.ldiv, 1) := by decide +kernel
theorem d_MD_runScript_104 : decode Y_MD_runScript.2.1 104 = .ok (.ldc2_w 234, 3) := by decide +kernel
theorem d_MD_runScript_107 : decode Y_MD_runScript.2.1 107 = .ok (.lrem, 1) := by decide +kernel
theorem d_MD_runScript_108 : decode Y_MD_runScript.2.1 108 = .ok (.l2i, 1) := by decide +kernel
theorem d_MD_runScript_109 : decode Y_MD_runScript.2.1 109 = .ok (.istore 7, 2) := by decide +kernel
theorem d_MD_runScript_111 : decode Y_MD_runScript.2.1 111 = .ok (.aload_n 0, 1) := by decide +kernel
theorem d_MD_runScript_112 : decode Y_MD_runScript.2.1 112 = .ok (.iload 7, 2) := by decide +kernel
theorem d_MD_runScript_114 : decode Y_MD_runScript.2.1 114 = .ok (.sipush (10000), 3) := by decide +kernel
theorem d_MD_runScript_117 : decode Y_MD_runScript.2.1 117 = .ok (.idiv, 1) := by decide +kernel
theorem d_MD_runScript_118 : decode Y_MD_runScript.2.1 118 = .ok (.iload 7, 2) := by decide +kernel
theorem d_MD_runScript_120 : decode Y_MD_runScript.2.1 120 = .ok (.sipush (10000), 3) := by decide +kernel
theorem d_MD_runScript_123 : decode Y_MD_runScript.2.1 123 = .ok (.irem, 1) := by decide +kernel
theorem d_MD_runScript_124 : decode Y_MD_runScript.2.1 124 = .ok (.invokevirtual 236, 3) := by decide +kernel
theorem d_MD_runScript_127 : decode Y_MD_runScript.2.1 127 = .ok (.ifCond .ne (6), 3) := by decide +kernel
theorem d_MD_runScript_130 : decode Y_MD_runScript.2.1 130 = .ok (.iload 6, 2) := by decide +kernel
theorem d_MD_runScript_132 : decode Y_MD_runScript.2.1 132 = .ok (.ireturn, 1) := by decide +kernel
theorem d_MD_runScript_133 : decode Y_MD_runScript.2.1 133 = .ok (.iinc 6 (1), 3) := by decide +kernel
theorem d_MD_runScript_136 : decode Y_MD_runScript.2.1 136 = .ok (.goto (-50), 3) := by decide +kernel
theorem d_MD_runScript_139 : decode Y_MD_runScript.2.1 139 = .ok (.iconst (-1), 1) := by decide +kernel
theorem d_MD_runScript_140 : decode Y_MD_runScript.2.1 140 = .ok (.ireturn, 1) := by decide +kernel
def f_MD_runScript (w : zW) (D : zD) (a : Nat) (x1 : Int32) (l2 : Int64) : Option (Int32 × zD) := zjp (zlp (fun (_ : Int64) (_ : Int32) (_ : zD) => none) (fun (j6 : Int64 → Int32 → zD → Option (Int32 × zD)) (l4 : Int64) (x6 : Int32) (D1 : zD) => zjp (fun (l4 : Int64) (D2 : zD) => zjp (fun (l4 : Int64) (s0 : Nat) (s1 : Int32) (D3 : zD) => zobj w 8 s0 (zci (f_MD_refused w D3 s0 s1) (fun v4 D5 => (if v4 = 0 then zjp (zlp (fun (_ : Int64) (_ : Int32) (_ : zD) => none) (fun (j86 : Int64 → Int32 → zD → Option (Int32 × zD)) (l4 : Int64) (x6 : Int32) (D6 : zD) => (if x1 ≤ x6 then some ((-1 : Int32), D6) else zlet (l4 / (100000 : Int64)) (fun v7 => zchk (¬ v7 = 0) (zlet ((zlrem (l2 / v7) (100000 : Int64)).toInt32) (fun v8 => zobj w 8 a (zci (f_MD_command w D6 a (v8 / (10000 : Int32)) (zirem v8 (10000 : Int32))) (fun v9 D10 => (if v9 = 0 then some (x6, D10) else zlet (x6 + (1 : Int32)) (fun v11 => j86 v7 v11 D10))))))))) zfuel) (fun j86 => zref w 8 3 a (fun p12 => zref w 8 4 a (fun p13 => zcv (f_MD_copyState w D5 p12 (0 : Int32) p13 (0 : Int32)) (fun D14 => j86 l4 (0 : Int32) D14)))) else some ((0 : Int32), D5))))) (fun j62 => zjp (fun (l4 : Int64) (s0 : Nat) (D15 : zD) => j62 l4 s0 (1 : Int32) D15) (fun j61 => zci (f_MD_in w D2 x1.toInt64 (1 : Int64) (3 : Int64)) (fun v16 D17 => (if v16 = 0 then j61 l4 a D17 else zci (f_MD_in w D17 l2 (0 : Int64) (l4 - (1 : Int64))) (fun v18 D19 => (if v18 = 0 then j61 l4 a D19 else j62 l4 a (0 : Int32) D19))))))) (fun j32 => (if x1 ≤ x6 then j32 l4 D1 else (if (3 : Int32) ≤ x6 then j32 l4 D1 else zlet (l4 * (100000 : Int64)) (fun v20 => zlet (x6 + (1 : Int32)) (fun v21 => j6 v20 v21 D1)))))) zfuel) (fun j6 => j6 (1 : Int64) (0 : Int32) D)
set_option maxHeartbeats 4000000 in
set_option maxRecDepth 100000 in
theorem c_MD_runScript (z : zT) (D : zD) (a : Nat) (x1 : Int32) (l2 : Int64) : zM Y_MD_runScript 7 0 0 (zqI z) (f_MD_runScript z.2 D a x1 l2) [.ref a, .int x1, .long l2] z D := by
  refine zM_of (plainFor_of_name (by decide +kernel)) rfl (Nat.le_of_ble_eq_true rfl) (fun _ _ _ _ h => nomatch h.1) (fun K => ?_)
  unfold f_MD_runScript
  refine z_jp (fun j6 : Int64 → Int32 → zD → Option (Int32 × zD) => ∀ (l4 : Int64) (x6 : Int32) (D1 : zD), zGO K Y_MD_runScript 7 0 0 (zqI z) (j6 l4 x6 D1) 0 0 z D1 6 [(0, .ref a), (1, .int x1), (2, .long l2), (4, .long l4), (6, .int x6)] []) (z_lp (fun j6 : Int64 → Int32 → zD → Option (Int32 × zD) => ∀ (l4 : Int64) (x6 : Int32) (D1 : zD), zGO K Y_MD_runScript 7 0 0 (zqI z) (j6 l4 x6 D1) 0 0 z D1 6 [(0, .ref a), (1, .int x1), (2, .long l2), (4, .long l4), (6, .int x6)] []) (fun _ _ _ => z_none) (fun j6 h6 l4 x6 D1 => ?_) zfuel) (fun j6 h6 => ?_)
  · refine z_jp (fun j32 : Int64 → zD → Option (Int32 × zD) => ∀ (l4 : Int64) (D2 : zD), zGO K Y_MD_runScript 7 0 0 (zqI z) (j32 l4 D2) 0 0 z D2 32 [(0, .ref a), (1, .int x1), (2, .long l2), (4, .long l4)] []) (fun l4 D2 => ?_) (fun j32 h32 => ?_)
    · refine z_jp (fun j62 : Int64 → Nat → Int32 → zD → Option (Int32 × zD) => ∀ (l4 : Int64) (s0 : Nat) (s1 : Int32) (D3 : zD), zGO K Y_MD_runScript 7 0 0 (zqI z) (j62 l4 s0 s1 D3) 0 0 z D3 62 [(0, .ref a), (1, .int x1), (2, .long l2), (4, .long l4)] [.int s1, .ref s0]) (fun l4 s0 s1 D3 => ?_) (fun j62 h62 => ?_)
      · refine z_callVi (pc := 62) [.int s1] lkV_MD_127 rfl (c_MD_refused z D3 s0 s1) (by decide) rfl rfl (Nat.le_of_ble_eq_true rfl) d_MD_runScript_62 (fun v4 D5 => ?_)
        refine z_if_eq (pc := 65) (tgt := 70) d_MD_runScript_65 (by decide) ?_ ?_
        · refine z_jp (fun j86 : Int64 → Int32 → zD → Option (Int32 × zD) => ∀ (l4 : Int64) (x6 : Int32) (D6 : zD), zGO K Y_MD_runScript 7 0 0 (zqI z) (j86 l4 x6 D6) 0 0 z D6 86 [(0, .ref a), (1, .int x1), (2, .long l2), (4, .long l4), (6, .int x6)] []) (z_lp (fun j86 : Int64 → Int32 → zD → Option (Int32 × zD) => ∀ (l4 : Int64) (x6 : Int32) (D6 : zD), zGO K Y_MD_runScript 7 0 0 (zqI z) (j86 l4 x6 D6) 0 0 z D6 86 [(0, .ref a), (1, .int x1), (2, .long l2), (4, .long l4), (6, .int x6)] []) (fun _ _ _ => z_none) (fun j86 h86 l4 x6 D6 => ?_) zfuel) (fun j86 h86 => ?_)
          · refine z_iload (pc := 86) d_MD_runScript_86 4 rfl ?_
            refine z_iload_n (pc := 88) d_MD_runScript_88 rfl 1 rfl ?_
            refine z_icmp_ge (pc := 89) (tgt := 139) d_MD_runScript_89 (by decide) ?_ ?_
            · refine z_iconst (pc := 139) d_MD_runScript_139 ki_m1 ?_
              exact z_iret (pc := 140) d_MD_runScript_140 rfl
            · refine z_lload (pc := 92) d_MD_runScript_92 3 rfl ?_
              refine z_ldc2 (pc := 94) w_k_MD_234 d_MD_runScript_94 ?_
              refine z_ldivK (pc := 97) d_MD_runScript_97 (by decide) ?_
              refine z_letl (fun v7 => ?_)
              refine z_lstore (pc := 98) d_MD_runScript_98 (by decide) (lv' := [(4, .long v7), (0, .ref a), (1, .int x1), (2, .long l2), (6, .int x6)]) rfl ?_
              refine z_lload_n (pc := 100) d_MD_runScript_100 rfl 3 rfl ?_
              refine z_lload (pc := 101) d_MD_runScript_101 0 rfl ?_
              refine z_ldiv (pc := 103) d_MD_runScript_103 ?_
              refine z_ldc2 (pc := 104) w_k_MD_234 d_MD_runScript_104 ?_
              refine z_lremK (pc := 107) d_MD_runScript_107 (by decide) ?_
              refine z_l2i (pc := 108) d_MD_runScript_108 ?_
              refine z_leti (fun v8 => ?_)
              refine z_istore (pc := 109) d_MD_runScript_109 (by decide) (lv' := [(7, .int v8), (4, .long v7), (0, .ref a), (1, .int x1), (2, .long l2), (6, .int x6)]) rfl ?_
              refine z_aload_n (pc := 111) d_MD_runScript_111 rfl 2 rfl ?_
              refine z_iload (pc := 112) d_MD_runScript_112 0 rfl ?_
              refine z_sipush (pc := 114) d_MD_runScript_114 ks_10000 ?_
              refine z_idivK (pc := 117) d_MD_runScript_117 (by decide) ?_
              refine z_iload (pc := 118) d_MD_runScript_118 0 rfl ?_
              refine z_sipush (pc := 120) d_MD_runScript_120 ks_10000 ?_
              refine z_iremK (pc := 123) d_MD_runScript_123 (by decide) ?_
              refine z_callVi (pc := 124) [.int (v8 / (10000 : Int32)), .int (zirem v8 (10000 : Int32))] lkV_MD_236 rfl (c_MD_command z D6 a (v8 / (10000 : Int32)) (zirem v8 (10000 : Int32))) (by decide) rfl rfl (Nat.le_of_ble_eq_true rfl) d_MD_runScript_124 (fun v9 D10 => ?_)
              refine z_if_ne (pc := 127) (tgt := 133) d_MD_runScript_127 (by decide) ?_ ?_
              · refine z_iload (pc := 130) d_MD_runScript_130 5 rfl ?_
                exact z_iret (pc := 132) d_MD_runScript_132 rfl
              · refine z_iincL (pc := 133) d_MD_runScript_133 ki_1 5 rfl (by decide) (fun v11 => z_lvc (lv2 := [(6, .int v11), (7, .int v8), (4, .long v7), (0, .ref a), (1, .int x1), (2, .long l2)]) rfl ?_)
                refine z_goto (pc := 136) (tgt := 86) d_MD_runScript_136 (by decide) ?_
                exact z_sub [3, 4, 5, 2, 0] rfl (h86 v7 v11 D10)
          · refine z_aload_n (pc := 70) d_MD_runScript_70 rfl 0 rfl ?_
            refine z_getR (pc := 71) fl_MD_13 d_MD_runScript_71 (fun p12 => ?_)
            refine z_iconst (pc := 74) d_MD_runScript_74 ki_0 ?_
            refine z_aload_n (pc := 75) d_MD_runScript_75 rfl 0 rfl ?_
            refine z_getR (pc := 76) fl_MD_16 d_MD_runScript_76 (fun p13 => ?_)
            refine z_iconst (pc := 79) d_MD_runScript_79 ki_0 ?_
            refine z_callSv (pc := 80) [.ref p12, .int (0 : Int32), .ref p13, .int (0 : Int32)] lkS_MD_188 (c_MD_copyState z D5 p12 (0 : Int32) p13 (0 : Int32)) (by decide) rfl rfl (Nat.le_of_ble_eq_true rfl) d_MD_runScript_80 (fun D14 => ?_)
            refine z_iconst (pc := 83) d_MD_runScript_83 ki_0 ?_
            refine z_istore (pc := 84) d_MD_runScript_84 (by decide) (lv' := [(6, .int (0 : Int32)), (0, .ref a), (1, .int x1), (2, .long l2), (4, .long l4)]) rfl ?_
            exact z_sub [1, 2, 3, 4, 0] rfl (h86 l4 (0 : Int32) D14)
        · refine z_iconst (pc := 68) d_MD_runScript_68 ki_0 ?_
          exact z_iret (pc := 69) d_MD_runScript_69 rfl
      · refine z_jp (fun j61 : Int64 → Nat → zD → Option (Int32 × zD) => ∀ (l4 : Int64) (s0 : Nat) (D15 : zD), zGO K Y_MD_runScript 7 0 0 (zqI z) (j61 l4 s0 D15) 0 0 z D15 61 [(0, .ref a), (1, .int x1), (2, .long l2), (4, .long l4)] [.ref s0]) (fun l4 s0 D15 => ?_) (fun j61 h61 => ?_)
        · refine z_iconst (pc := 61) d_MD_runScript_61 ki_1 ?_
          exact z_sub [0, 1, 2, 3] rfl (h62 l4 s0 (1 : Int32) D15)
        · refine z_aload_n (pc := 32) d_MD_runScript_32 rfl 0 rfl ?_
          refine z_iload_n (pc := 33) d_MD_runScript_33 rfl 1 rfl ?_
          refine z_i2l (pc := 34) d_MD_runScript_34 ?_
          refine z_lconst (pc := 35) d_MD_runScript_35 (v := 1) rfl ?_
          refine z_ldc2 (pc := 36) w_k_MD_212 d_MD_runScript_36 ?_
          refine z_callSi (pc := 39) [.long x1.toInt64, .long (1 : Int64), .long (3 : Int64)] lkS_MD_37 (c_MD_in z D2 x1.toInt64 (1 : Int64) (3 : Int64)) (by decide) rfl rfl (Nat.le_of_ble_eq_true rfl) d_MD_runScript_39 (fun v16 D17 => ?_)
          refine z_if_eq (pc := 42) (tgt := 61) d_MD_runScript_42 (by decide) ?_ ?_
          · exact z_sub [0, 1, 2, 3] rfl (h61 l4 a D17)
          · refine z_lload_n (pc := 45) d_MD_runScript_45 rfl 2 rfl ?_
            refine z_lconst (pc := 46) d_MD_runScript_46 (v := 0) rfl ?_
            refine z_lload (pc := 47) d_MD_runScript_47 3 rfl ?_
            refine z_lconst (pc := 49) d_MD_runScript_49 (v := 1) rfl ?_
            refine z_lsub (pc := 50) d_MD_runScript_50 ?_
            refine z_callSi (pc := 51) [.long l2, .long (0 : Int64), .long (l4 - (1 : Int64))] lkS_MD_37 (c_MD_in z D17 l2 (0 : Int64) (l4 - (1 : Int64))) (by decide) rfl rfl (Nat.le_of_ble_eq_true rfl) d_MD_runScript_51 (fun v18 D19 => ?_)
            refine z_if_eq (pc := 54) (tgt := 61) d_MD_runScript_54 (by decide) ?_ ?_
            · exact z_sub [0, 1, 2, 3] rfl (h61 l4 a D19)
            · refine z_iconst (pc := 57) d_MD_runScript_57 ki_0 ?_
              refine z_goto (pc := 58) (tgt := 62) d_MD_runScript_58 (by decide) ?_
              exact z_sub [0, 1, 2, 3] rfl (h62 l4 a (0 : Int32) D19)
    · refine z_iload (pc := 6) d_MD_runScript_6 4 rfl ?_
      refine z_iload_n (pc := 8) d_MD_runScript_8 rfl 1 rfl ?_
      refine z_icmp_ge (pc := 9) (tgt := 32) d_MD_runScript_9 (by decide) ?_ ?_
      · exact z_sub [0, 1, 2, 3] rfl (h32 l4 D1)
      · refine z_iload (pc := 12) d_MD_runScript_12 4 rfl ?_
        refine z_iconst (pc := 14) d_MD_runScript_14 ki_3 ?_
        refine z_icmp_ge (pc := 15) (tgt := 32) d_MD_runScript_15 (by decide) ?_ ?_
        · exact z_sub [0, 1, 2, 3] rfl (h32 l4 D1)
        · refine z_lload (pc := 18) d_MD_runScript_18 3 rfl ?_
          refine z_ldc2 (pc := 20) w_k_MD_234 d_MD_runScript_20 ?_
          refine z_lmul (pc := 23) d_MD_runScript_23 ?_
          refine z_letl (fun v20 => ?_)
          refine z_lstore (pc := 24) d_MD_runScript_24 (by decide) (lv' := [(4, .long v20), (0, .ref a), (1, .int x1), (2, .long l2), (6, .int x6)]) rfl ?_
          refine z_iincL (pc := 26) d_MD_runScript_26 ki_1 4 rfl (by decide) (fun v21 => z_lvc (lv2 := [(6, .int v21), (4, .long v20), (0, .ref a), (1, .int x1), (2, .long l2)]) rfl ?_)
          refine z_goto (pc := 29) (tgt := 6) d_MD_runScript_29 (by decide) ?_
          exact z_sub [2, 3, 4, 1, 0] rfl (h6 v20 v21 D1)
  · refine z_lconst (pc := 0) d_MD_runScript_0 (v := 1) rfl ?_
    refine z_lstore (pc := 1) d_MD_runScript_1 (by decide) (lv' := [(4, .long (1 : Int64)), (0, .ref a), (1, .int x1), (2, .long l2)]) rfl ?_
    refine z_iconst (pc := 3) d_MD_runScript_3 ki_0 ?_
    refine z_istore (pc := 4) d_MD_runScript_4 (by decide) (lv' := [(6, .int (0 : Int32)), (4, .long (1 : Int64)), (0, .ref a), (1, .int x1), (2, .long l2)]) rfl ?_
    exact z_sub [2, 3, 4, 1, 0] rfl (h6 (1 : Int64) (0 : Int32) D)
theorem d_MD_simulate_0 : decode Y_MD_simulate.2.1 0 = .ok (.aload_n 0, 1) := by decide +kernel
theorem d_MD_simulate_1 : decode Y_MD_simulate.2.1 1 = .ok (.iload_n 3, 1) := by decide +kernel
theorem d_MD_simulate_2 : decode Y_MD_simulate.2.1 2 = .ok (.i2l, 1) := by decide +kernel
theorem d_MD_simulate_3 : decode Y_MD_simulate.2.1 3 = .ok (.lconst 1, 1) := by decide +kernel
theorem d_MD_simulate_4 : decode Y_MD_simulate.2.1 4 = .ok (.ldc2_w 242, 3) := by decide +kernel
theorem d_MD_simulate_7 : decode Y_MD_simulate.2.1 7 = .ok (.invokestatic 37, 3) := by decide +kernel
theorem d_MD_simulate_10 : decode Y_MD_simulate.2.1 10 = .ok (.ifCond .eq (7), 3) := by decide +kernel
theorem d_MD_simulate_13 : decode Y_MD_simulate.2.1 13 = .ok (.iconst (0), 1) := by decide +kernel
theorem d_MD_simulate_14 : decode Y_MD_simulate.2.1 14 = .ok (.goto (4), 3) := by decide +kernel
theorem d_MD_simulate_17 : decode Y_MD_simulate.2.1 17 = .ok (.iconst (1), 1) := by decide +kernel
theorem d_MD_simulate_18 : decode Y_MD_simulate.2.1 18 = .ok (.invokevirtual 127, 3) := by decide +kernel
theorem d_MD_simulate_21 : decode Y_MD_simulate.2.1 21 = .ok (.ifCond .eq (5), 3) := by decide +kernel
theorem d_MD_simulate_24 : decode Y_MD_simulate.2.1 24 = .ok (.iconst (0), 1) := by decide +kernel
theorem d_MD_simulate_25 : decode Y_MD_simulate.2.1 25 = .ok (.ireturn, 1) := by decide +kernel
theorem d_MD_simulate_26 : decode Y_MD_simulate.2.1 26 = .ok (.aload_n 0, 1) := by decide +kernel
theorem d_MD_simulate_27 : decode Y_MD_simulate.2.1 27 = .ok (.getfield 13, 3) := by decide +kernel
theorem d_MD_simulate_30 : decode Y_MD_simulate.2.1 30 = .ok (.iconst (0), 1) := by decide +kernel
theorem d_MD_simulate_31 : decode Y_MD_simulate.2.1 31 = .ok (.aload_n 0, 1) := by decide +kernel
theorem d_MD_simulate_32 : decode Y_MD_simulate.2.1 32 = .ok (.getfield 16, 3) := by decide +kernel
theorem d_MD_simulate_35 : decode Y_MD_simulate.2.1 35 = .ok (.iconst (0), 1) := by decide +kernel
theorem d_MD_simulate_36 : decode Y_MD_simulate.2.1 36 = .ok (.invokestatic 188, 3) := by decide +kernel
theorem d_MD_simulate_39 : decode Y_MD_simulate.2.1 39 = .ok (.lload_n 1, 1) := by decide +kernel
theorem d_MD_simulate_40 : decode Y_MD_simulate.2.1 40 = .ok (.lstore 4, 2) := by decide +kernel
theorem d_MD_simulate_42 : decode Y_MD_simulate.2.1 42 = .ok (.iconst (0), 1) := by decide +kernel
theorem d_MD_simulate_43 : decode Y_MD_simulate.2.1 43 = .ok (.istore 6, 2) := by decide +kernel
theorem d_MD_simulate_45 : decode Y_MD_simulate.2.1 45 = .ok (.iload 6, 2) := by decide +kernel
theorem d_MD_simulate_47 : decode Y_MD_simulate.2.1 47 = .ok (.iload_n 3, 1) := by decide +kernel
theorem d_MD_simulate_48 : decode Y_MD_simulate.2.1 48 = .ok (.if_icmp .ge (46), 3) := by decide +kernel
theorem d_MD_simulate_51 : decode Y_MD_simulate.2.1 51 = .ok (.lload 4, 2) := by decide +kernel
theorem d_MD_simulate_53 : decode Y_MD_simulate.2.1 53 = .ok (.ldc2_w 244, 3) := by decide +kernel
theorem d_MD_simulate_56 : decode Y_MD_simulate.2.1 56 = .ok (.lmul, 1) := by decide +kernel
theorem d_MD_simulate_57 : decode Y_MD_simulate.2.1 57 = .ok (.ldc2_w 246, 3) := by decide +kernel
theorem d_MD_simulate_60 : decode Y_MD_simulate.2.1 60 = .ok (.ladd, 1) := by decide +kernel
theorem d_MD_simulate_61 : decode Y_MD_simulate.2.1 61 = .ok (.lstore 4, 2) := by decide +kernel
theorem d_MD_simulate_63 : decode Y_MD_simulate.2.1 63 = .ok (.lload 4, 2) := by decide +kernel
theorem d_MD_simulate_65 : decode Y_MD_simulate.2.1 65 = .ok (.bipush (33), 2) := by decide +kernel
theorem d_MD_simulate_67 : decode Y_MD_simulate.2.1 67 = .ok (.lushr, 1) := by decide +kernel
theorem d_MD_simulate_68 : decode Y_MD_simulate.2.1 68 = .ok (.l2i, 1) := by decide +kernel
theorem d_MD_simulate_69 : decode Y_MD_simulate.2.1 69 = .ok (.istore 7, 2) := by decide +kernel
theorem d_MD_simulate_71 : decode Y_MD_simulate.2.1 71 = .ok (.aload_n 0, 1) := by decide +kernel
theorem d_MD_simulate_72 : decode Y_MD_simulate.2.1 72 = .ok (.getfield 16, 3) := by decide +kernel
theorem d_MD_simulate_75 : decode Y_MD_simulate.2.1 75 = .ok (.iload 7, 2) := by decide +kernel
theorem d_MD_simulate_77 : decode Y_MD_simulate.2.1 77 = .ok (.bipush (8), 2) := by decide +kernel
theorem d_MD_simulate_79 : decode Y_MD_simulate.2.1 79 = .ok (.irem, 1) := by decide +kernel
theorem d_MD_simulate_80 : decode Y_MD_simulate.2.1 80 = .ok (.iload 7, 2) := by decide +kernel
theorem d_MD_simulate_82 : decode Y_MD_simulate.2.1 82 = .ok (.bipush (8), 2) := by decide +kernel
theorem d_MD_simulate_84 : decode Y_MD_simulate.2.1 84 = .ok (.idiv, 1) := by decide +kernel
theorem d_MD_simulate_85 : decode Y_MD_simulate.2.1 85 = .ok (.invokestatic 248, 3) := by decide +kernel
theorem d_MD_simulate_88 : decode Y_MD_simulate.2.1 88 = .ok (.iinc 6 (1), 3) := by decide +kernel
theorem d_MD_simulate_91 : decode Y_MD_simulate.2.1 91 = .ok (.goto (-46), 3) := by decide +kernel
theorem d_MD_simulate_94 : decode Y_MD_simulate.2.1 94 = .ok (.sipush (10000), 3) := by decide +kernel
theorem d_MD_simulate_97 : decode Y_MD_simulate.2.1 97 = .ok (.aload_n 0, 1) := by decide +kernel
theorem d_MD_simulate_98 : decode Y_MD_simulate.2.1 98 = .ok (.getfield 16, 3) := by decide +kernel
theorem d_MD_simulate_101 : decode Y_MD_simulate.2.1 101 = .ok (.bipush (6), 2) := by decide +kernel
theorem d_MD_simulate_103 : decode Y_MD_simulate.2.1 103 = .ok (.iaload, 1) := by decide +kernel
theorem d_MD_simulate_104 : decode Y_MD_simulate.2.1 104 = .ok (.aload_n 0, 1) := by decide +kernel
theorem d_MD_simulate_105 : decode Y_MD_simulate.2.1 105 = .ok (.getfield 13, 3) := by decide +kernel
theorem d_MD_simulate_108 : decode Y_MD_simulate.2.1 108 = .ok (.bipush (6), 2) := by decide +kernel
theorem d_MD_simulate_110 : decode Y_MD_simulate.2.1 110 = .ok (.iaload, 1) := by decide +kernel
theorem d_MD_simulate_111 : decode Y_MD_simulate.2.1 111 = .ok (.isub, 1) := by decide +kernel
theorem d_MD_simulate_112 : decode Y_MD_simulate.2.1 112 = .ok (.sipush (10000), 3) := by decide +kernel
theorem d_MD_simulate_115 : decode Y_MD_simulate.2.1 115 = .ok (.irem, 1) := by decide +kernel
theorem d_MD_simulate_116 : decode Y_MD_simulate.2.1 116 = .ok (.imul, 1) := by decide +kernel
theorem d_MD_simulate_117 : decode Y_MD_simulate.2.1 117 = .ok (.bipush (100), 2) := by decide +kernel
theorem d_MD_simulate_119 : decode Y_MD_simulate.2.1 119 = .ok (.aload_n 0, 1) := by decide +kernel
theorem d_MD_simulate_120 : decode Y_MD_simulate.2.1 120 = .ok (.getfield 16, 3) := by decide +kernel
theorem d_MD_simulate_123 : decode Y_MD_simulate.2.1 123 = .ok (.bipush (8), 2) := by decide +kernel
theorem d_MD_simulate_125 : decode Y_MD_simulate.2.1 125 = .ok (.iaload, 1) := by decide +kernel
theorem d_MD_simulate_126 : decode Y_MD_simulate.2.1 126 = .ok (.aload_n 0, 1) := by decide +kernel
theorem d_MD_simulate_127 : decode Y_MD_simulate.2.1 127 = .ok (.getfield 13, 3) := by decide +kernel
theorem d_MD_simulate_130 : decode Y_MD_simulate.2.1 130 = .ok (.bipush (8), 2) := by decide +kernel
theorem d_MD_simulate_132 : decode Y_MD_simulate.2.1 132 = .ok (.iaload, 1) := by decide +kernel
theorem d_MD_simulate_133 : decode Y_MD_simulate.2.1 133 = .ok (.isub, 1) := by decide +kernel
theorem d_MD_simulate_134 : decode Y_MD_simulate.2.1 134 = .ok (.bipush (100), 2) := by decide +kernel
theorem d_MD_simulate_136 : decode Y_MD_simulate.2.1 136 = .ok (.irem, 1) := by decide +kernel
theorem d_MD_simulate_137 : decode Y_MD_simulate.2.1 137 = .ok (.imul, 1) := by decide +kernel
theorem d_MD_simulate_138 : decode Y_MD_simulate.2.1 138 = .ok (.iadd, 1) := by decide +kernel
theorem d_MD_simulate_139 : decode Y_MD_simulate.2.1 139 = .ok (.aload_n 0, 1) := by decide +kernel
theorem d_MD_simulate_140 : decode Y_MD_simulate.2.1 140 = .ok (.getfield 16, 3) := by decide +kernel
theorem d_MD_simulate_143 : decode Y_MD_simulate.2.1 143 = .ok (.iconst (4), 1) := by decide +kernel
theorem d_MD_simulate_144 : decode Y_MD_simulate.2.1 144 = .ok (.iaload, 1) := by decide +kernel
theorem d_MD_simulate_145 : decode Y_MD_simulate.2.1 145 = .ok (.iadd, 1) := by decide +kernel
theorem d_MD_simulate_146 : decode Y_MD_simulate.2.1 146 = .ok (.ireturn, 1) := by decide +kernel
def f_MD_simulate (w : zW) (D : zD) (a : Nat) (l1 : Int64) (x3 : Int32) : Option (Int32 × zD) := zjp (fun (s0 : Nat) (s1 : Int32) (D1 : zD) => zobj w 8 s0 (zci (f_MD_refused w D1 s0 s1) (fun v2 D3 => (if v2 = 0 then zjp (zlp (fun (_ : Int64) (_ : Int32) (_ : zD) => none) (fun (j45 : Int64 → Int32 → zD → Option (Int32 × zD)) (l4 : Int64) (x6 : Int32) (D4 : zD) => (if x3 ≤ x6 then zref w 8 4 a (fun p5 => zald w D4 0 p5 (6 : Int32) (fun v6 => zref w 8 3 a (fun p7 => zald w D4 0 p7 (6 : Int32) (fun v8 => zref w 8 4 a (fun p9 => zald w D4 0 p9 (8 : Int32) (fun v10 => zref w 8 3 a (fun p11 => zald w D4 0 p11 (8 : Int32) (fun v12 => zref w 8 4 a (fun p13 => zald w D4 0 p13 (4 : Int32) (fun v14 => some ((((10000 : Int32) * (zirem (v6 - v8) (10000 : Int32))) + ((100 : Int32) * (zirem (v10 - v12) (100 : Int32)))) + v14, D4))))))))))) else zlet ((l4 * (6364136223846793005 : Int64)) + (1442695040888963407 : Int64)) (fun v15 => zlet (((v15.toUInt64 >>> ((33 : Int32).toInt64.toUInt64 &&& Int64.toUInt64 63)).toInt64).toInt32) (fun v16 => zref w 8 4 a (fun p17 => zcv (f_MD_turnOf w D4 p17 (zirem v16 (8 : Int32)) (v16 / (8 : Int32))) (fun D18 => zlet (x6 + (1 : Int32)) (fun v19 => j45 v15 v19 D18))))))) zfuel) (fun j45 => zref w 8 3 a (fun p20 => zref w 8 4 a (fun p21 => zcv (f_MD_copyState w D3 p20 (0 : Int32) p21 (0 : Int32)) (fun D22 => j45 l1 (0 : Int32) D22)))) else some ((0 : Int32), D3))))) (fun j18 => zci (f_MD_in w D x3.toInt64 (1 : Int64) (60 : Int64)) (fun v23 D24 => (if v23 = 0 then j18 a (1 : Int32) D24 else j18 a (0 : Int32) D24)))
set_option maxHeartbeats 4000000 in
set_option maxRecDepth 100000 in
theorem c_MD_simulate (z : zT) (D : zD) (a : Nat) (l1 : Int64) (x3 : Int32) : zM Y_MD_simulate 7 0 0 (zqI z) (f_MD_simulate z.2 D a l1 x3) [.ref a, .long l1, .int x3] z D := by
  refine zM_of (plainFor_of_name (by decide +kernel)) rfl (Nat.le_of_ble_eq_true rfl) (fun _ _ _ _ h => nomatch h.1) (fun K => ?_)
  unfold f_MD_simulate
  refine z_jp (fun j18 : Nat → Int32 → zD → Option (Int32 × zD) => ∀ (s0 : Nat) (s1 : Int32) (D1 : zD), zGO K Y_MD_simulate 7 0 0 (zqI z) (j18 s0 s1 D1) 0 0 z D1 18 [(0, .ref a), (1, .long l1), (3, .int x3)] [.int s1, .ref s0]) (fun s0 s1 D1 => ?_) (fun j18 h18 => ?_)
  · refine z_callVi (pc := 18) [.int s1] lkV_MD_127 rfl (c_MD_refused z D1 s0 s1) (by decide) rfl rfl (Nat.le_of_ble_eq_true rfl) d_MD_simulate_18 (fun v2 D3 => ?_)
    refine z_if_eq (pc := 21) (tgt := 26) d_MD_simulate_21 (by decide) ?_ ?_
    · refine z_jp (fun j45 : Int64 → Int32 → zD → Option (Int32 × zD) => ∀ (l4 : Int64) (x6 : Int32) (D4 : zD), zGO K Y_MD_simulate 7 0 0 (zqI z) (j45 l4 x6 D4) 0 0 z D4 45 [(0, .ref a), (3, .int x3), (4, .long l4), (6, .int x6)] []) (z_lp (fun j45 : Int64 → Int32 → zD → Option (Int32 × zD) => ∀ (l4 : Int64) (x6 : Int32) (D4 : zD), zGO K Y_MD_simulate 7 0 0 (zqI z) (j45 l4 x6 D4) 0 0 z D4 45 [(0, .ref a), (3, .int x3), (4, .long l4), (6, .int x6)] []) (fun _ _ _ => z_none) (fun j45 h45 l4 x6 D4 => ?_) zfuel) (fun j45 h45 => ?_)
      · refine z_iload (pc := 45) d_MD_simulate_45 3 rfl ?_
        refine z_iload_n (pc := 47) d_MD_simulate_47 rfl 1 rfl ?_
        refine z_icmp_ge (pc := 48) (tgt := 94) d_MD_simulate_48 (by decide) ?_ ?_
        · refine z_sipush (pc := 94) d_MD_simulate_94 ks_10000 ?_
          refine z_aload_n (pc := 97) d_MD_simulate_97 rfl 0 rfl ?_
          refine z_getR (pc := 98) fl_MD_16 d_MD_simulate_98 (fun p5 => ?_)
          refine z_bipush (pc := 101) d_MD_simulate_101 kb_6 ?_
          refine z_iaload (pc := 103) d_MD_simulate_103 (fun v6 => ?_)
          refine z_aload_n (pc := 104) d_MD_simulate_104 rfl 0 rfl ?_
          refine z_getR (pc := 105) fl_MD_13 d_MD_simulate_105 (fun p7 => ?_)
          refine z_bipush (pc := 108) d_MD_simulate_108 kb_6 ?_
          refine z_iaload (pc := 110) d_MD_simulate_110 (fun v8 => ?_)
          refine z_isub (pc := 111) d_MD_simulate_111 ?_
          refine z_sipush (pc := 112) d_MD_simulate_112 ks_10000 ?_
          refine z_iremK (pc := 115) d_MD_simulate_115 (by decide) ?_
          refine z_imul (pc := 116) d_MD_simulate_116 ?_
          refine z_bipush (pc := 117) d_MD_simulate_117 kb_100 ?_
          refine z_aload_n (pc := 119) d_MD_simulate_119 rfl 0 rfl ?_
          refine z_getR (pc := 120) fl_MD_16 d_MD_simulate_120 (fun p9 => ?_)
          refine z_bipush (pc := 123) d_MD_simulate_123 kb_8 ?_
          refine z_iaload (pc := 125) d_MD_simulate_125 (fun v10 => ?_)
          refine z_aload_n (pc := 126) d_MD_simulate_126 rfl 0 rfl ?_
          refine z_getR (pc := 127) fl_MD_13 d_MD_simulate_127 (fun p11 => ?_)
          refine z_bipush (pc := 130) d_MD_simulate_130 kb_8 ?_
          refine z_iaload (pc := 132) d_MD_simulate_132 (fun v12 => ?_)
          refine z_isub (pc := 133) d_MD_simulate_133 ?_
          refine z_bipush (pc := 134) d_MD_simulate_134 kb_100 ?_
          refine z_iremK (pc := 136) d_MD_simulate_136 (by decide) ?_
          refine z_imul (pc := 137) d_MD_simulate_137 ?_
          refine z_iadd (pc := 138) d_MD_simulate_138 ?_
          refine z_aload_n (pc := 139) d_MD_simulate_139 rfl 0 rfl ?_
          refine z_getR (pc := 140) fl_MD_16 d_MD_simulate_140 (fun p13 => ?_)
          refine z_iconst (pc := 143) d_MD_simulate_143 ki_4 ?_
          refine z_iaload (pc := 144) d_MD_simulate_144 (fun v14 => ?_)
          refine z_iadd (pc := 145) d_MD_simulate_145 ?_
          exact z_iret (pc := 146) d_MD_simulate_146 rfl
        · refine z_lload (pc := 51) d_MD_simulate_51 2 rfl ?_
          refine z_ldc2 (pc := 53) w_k_MD_244 d_MD_simulate_53 ?_
          refine z_lmul (pc := 56) d_MD_simulate_56 ?_
          refine z_ldc2 (pc := 57) w_k_MD_246 d_MD_simulate_57 ?_
          refine z_ladd (pc := 60) d_MD_simulate_60 ?_
          refine z_letl (fun v15 => ?_)
          refine z_lstore (pc := 61) d_MD_simulate_61 (by decide) (lv' := [(4, .long v15), (0, .ref a), (3, .int x3), (6, .int x6)]) rfl ?_
          refine z_lload (pc := 63) d_MD_simulate_63 0 rfl ?_
          refine z_bipush (pc := 65) d_MD_simulate_65 kb_33 ?_
          refine z_lushr (pc := 67) d_MD_simulate_67 ?_
          refine z_l2i (pc := 68) d_MD_simulate_68 ?_
          refine z_leti (fun v16 => ?_)
          refine z_istore (pc := 69) d_MD_simulate_69 (by decide) (lv' := [(7, .int v16), (4, .long v15), (0, .ref a), (3, .int x3), (6, .int x6)]) rfl ?_
          refine z_aload_n (pc := 71) d_MD_simulate_71 rfl 2 rfl ?_
          refine z_getR (pc := 72) fl_MD_16 d_MD_simulate_72 (fun p17 => ?_)
          refine z_iload (pc := 75) d_MD_simulate_75 0 rfl ?_
          refine z_bipush (pc := 77) d_MD_simulate_77 kb_8 ?_
          refine z_iremK (pc := 79) d_MD_simulate_79 (by decide) ?_
          refine z_iload (pc := 80) d_MD_simulate_80 0 rfl ?_
          refine z_bipush (pc := 82) d_MD_simulate_82 kb_8 ?_
          refine z_idivK (pc := 84) d_MD_simulate_84 (by decide) ?_
          refine z_callSv (pc := 85) [.ref p17, .int (zirem v16 (8 : Int32)), .int (v16 / (8 : Int32))] lkS_MD_248 (c_MD_turnOf z D4 p17 (zirem v16 (8 : Int32)) (v16 / (8 : Int32))) (by decide) rfl rfl (Nat.le_of_ble_eq_true rfl) d_MD_simulate_85 (fun D18 => ?_)
          refine z_iincL (pc := 88) d_MD_simulate_88 ki_1 4 rfl (by decide) (fun v19 => z_lvc (lv2 := [(6, .int v19), (7, .int v16), (4, .long v15), (0, .ref a), (3, .int x3)]) rfl ?_)
          refine z_goto (pc := 91) (tgt := 45) d_MD_simulate_91 (by decide) ?_
          exact z_sub [3, 4, 2, 0] rfl (h45 v15 v19 D18)
      · refine z_aload_n (pc := 26) d_MD_simulate_26 rfl 0 rfl ?_
        refine z_getR (pc := 27) fl_MD_13 d_MD_simulate_27 (fun p20 => ?_)
        refine z_iconst (pc := 30) d_MD_simulate_30 ki_0 ?_
        refine z_aload_n (pc := 31) d_MD_simulate_31 rfl 0 rfl ?_
        refine z_getR (pc := 32) fl_MD_16 d_MD_simulate_32 (fun p21 => ?_)
        refine z_iconst (pc := 35) d_MD_simulate_35 ki_0 ?_
        refine z_callSv (pc := 36) [.ref p20, .int (0 : Int32), .ref p21, .int (0 : Int32)] lkS_MD_188 (c_MD_copyState z D3 p20 (0 : Int32) p21 (0 : Int32)) (by decide) rfl rfl (Nat.le_of_ble_eq_true rfl) d_MD_simulate_36 (fun D22 => ?_)
        refine z_lload_n (pc := 39) d_MD_simulate_39 rfl 1 rfl ?_
        refine z_lstore (pc := 40) d_MD_simulate_40 (by decide) (lv' := [(4, .long l1), (0, .ref a), (1, .long l1), (3, .int x3)]) rfl ?_
        refine z_iconst (pc := 42) d_MD_simulate_42 ki_0 ?_
        refine z_istore (pc := 43) d_MD_simulate_43 (by decide) (lv' := [(6, .int (0 : Int32)), (4, .long l1), (0, .ref a), (1, .long l1), (3, .int x3)]) rfl ?_
        exact z_sub [2, 4, 1, 0] rfl (h45 l1 (0 : Int32) D22)
    · refine z_iconst (pc := 24) d_MD_simulate_24 ki_0 ?_
      exact z_iret (pc := 25) d_MD_simulate_25 rfl
  · refine z_aload_n (pc := 0) d_MD_simulate_0 rfl 0 rfl ?_
    refine z_iload_n (pc := 1) d_MD_simulate_1 rfl 2 rfl ?_
    refine z_i2l (pc := 2) d_MD_simulate_2 ?_
    refine z_lconst (pc := 3) d_MD_simulate_3 (v := 1) rfl ?_
    refine z_ldc2 (pc := 4) w_k_MD_242 d_MD_simulate_4 ?_
    refine z_callSi (pc := 7) [.long x3.toInt64, .long (1 : Int64), .long (60 : Int64)] lkS_MD_37 (c_MD_in z D x3.toInt64 (1 : Int64) (60 : Int64)) (by decide) rfl rfl (Nat.le_of_ble_eq_true rfl) d_MD_simulate_7 (fun v23 D24 => ?_)
    refine z_if_eq (pc := 10) (tgt := 17) d_MD_simulate_10 (by decide) ?_ ?_
    · refine z_iconst (pc := 17) d_MD_simulate_17 ki_1 ?_
      exact z_sub [0, 1, 2] rfl (h18 a (1 : Int32) D24)
    · refine z_iconst (pc := 13) d_MD_simulate_13 ki_0 ?_
      refine z_goto (pc := 14) (tgt := 18) d_MD_simulate_14 (by decide) ?_
      exact z_sub [0, 1, 2] rfl (h18 a (0 : Int32) D24)
theorem d_MD_errorPosition_0 : decode Y_MD_errorPosition.2.1 0 = .ok (.aload_n 0, 1) := by decide +kernel
theorem d_MD_errorPosition_1 : decode Y_MD_errorPosition.2.1 1 = .ok (.iconst (0), 1) := by decide +kernel
theorem d_MD_errorPosition_2 : decode Y_MD_errorPosition.2.1 2 = .ok (.putfield 33, 3) := by decide +kernel
theorem d_MD_errorPosition_5 : decode Y_MD_errorPosition.2.1 5 = .ok (.aload_n 0, 1) := by decide +kernel
theorem d_MD_errorPosition_6 : decode Y_MD_errorPosition.2.1 6 = .ok (.aload_n 0, 1) := by decide +kernel
theorem d_MD_errorPosition_7 : decode Y_MD_errorPosition.2.1 7 = .ok (.getfield 16, 3) := by decide +kernel
theorem d_MD_errorPosition_10 : decode Y_MD_errorPosition.2.1 10 = .ok (.invokevirtual 184, 3) := by decide +kernel
theorem d_MD_errorPosition_13 : decode Y_MD_errorPosition.2.1 13 = .ok (.ireturn, 1) := by decide +kernel
def f_MD_errorPosition (w : zW) (D : zD) (a : Nat) : Option (Int32 × zD) := zput w D 8 0 a (0 : Int32) (fun D1 => zref w 8 4 a (fun p2 => zobj w 8 a (zci (f_MD_readText w D1 a p2) (fun v3 D4 => some (v3, D4)))))
set_option maxHeartbeats 4000000 in
set_option maxRecDepth 100000 in
theorem c_MD_errorPosition (z : zT) (D : zD) (a : Nat) : zM Y_MD_errorPosition 8 0 0 (zqI z) (f_MD_errorPosition z.2 D a) [.ref a] z D := by
  refine zM_of (plainFor_of_name (by decide +kernel)) rfl (Nat.le_of_ble_eq_true rfl) (fun _ _ _ _ h => nomatch h.1) (fun K => ?_)
  unfold f_MD_errorPosition
  refine z_aload_n (pc := 0) d_MD_errorPosition_0 rfl 0 rfl ?_
  refine z_iconst (pc := 1) d_MD_errorPosition_1 ki_0 ?_
  refine z_putI (pc := 2) fl_MD_33 d_MD_errorPosition_2 (fun D1 => ?_)
  refine z_aload_n (pc := 5) d_MD_errorPosition_5 rfl 0 rfl ?_
  refine z_aload_n (pc := 6) d_MD_errorPosition_6 rfl 0 rfl ?_
  refine z_getR (pc := 7) fl_MD_16 d_MD_errorPosition_7 (fun p2 => ?_)
  refine z_callVi (pc := 10) [.ref p2] lkV_MD_184 rfl (c_MD_readText z D1 a p2) (by decide) rfl rfl (Nat.le_of_ble_eq_true rfl) d_MD_errorPosition_10 (fun v3 D4 => ?_)
  exact z_iret (pc := 13) d_MD_errorPosition_13 rfl
theorem d_MD_load_0 : decode Y_MD_load.2.1 0 = .ok (.aload_n 0, 1) := by decide +kernel
theorem d_MD_load_1 : decode Y_MD_load.2.1 1 = .ok (.aload_n 0, 1) := by decide +kernel
theorem d_MD_load_2 : decode Y_MD_load.2.1 2 = .ok (.aload_n 0, 1) := by decide +kernel
theorem d_MD_load_3 : decode Y_MD_load.2.1 3 = .ok (.getfield 16, 3) := by decide +kernel
theorem d_MD_load_6 : decode Y_MD_load.2.1 6 = .ok (.invokevirtual 184, 3) := by decide +kernel
theorem d_MD_load_9 : decode Y_MD_load.2.1 9 = .ok (.iconst (-1), 1) := by decide +kernel
theorem d_MD_load_10 : decode Y_MD_load.2.1 10 = .ok (.if_icmp .ne (7), 3) := by decide +kernel
theorem d_MD_load_13 : decode Y_MD_load.2.1 13 = .ok (.iconst (0), 1) := by decide +kernel
theorem d_MD_load_14 : decode Y_MD_load.2.1 14 = .ok (.goto (4), 3) := by decide +kernel
theorem d_MD_load_17 : decode Y_MD_load.2.1 17 = .ok (.iconst (1), 1) := by decide +kernel
theorem d_MD_load_18 : decode Y_MD_load.2.1 18 = .ok (.invokevirtual 127, 3) := by decide +kernel
theorem d_MD_load_21 : decode Y_MD_load.2.1 21 = .ok (.ifCond .eq (5), 3) := by decide +kernel
theorem d_MD_load_24 : decode Y_MD_load.2.1 24 = .ok (.iconst (0), 1) := by decide +kernel
theorem d_MD_load_25 : decode Y_MD_load.2.1 25 = .ok (.ireturn, 1) := by decide +kernel
theorem d_MD_load_26 : decode Y_MD_load.2.1 26 = .ok (.aload_n 0, 1) := by decide +kernel
theorem d_MD_load_27 : decode Y_MD_load.2.1 27 = .ok (.getfield 16, 3) := by decide +kernel
theorem d_MD_load_30 : decode Y_MD_load.2.1 30 = .ok (.iconst (0), 1) := by decide +kernel
theorem d_MD_load_31 : decode Y_MD_load.2.1 31 = .ok (.aload_n 0, 1) := by decide +kernel
theorem d_MD_load_32 : decode Y_MD_load.2.1 32 = .ok (.getfield 13, 3) := by decide +kernel
theorem d_MD_load_35 : decode Y_MD_load.2.1 35 = .ok (.iconst (0), 1) := by decide +kernel
theorem d_MD_load_36 : decode Y_MD_load.2.1 36 = .ok (.invokestatic 188, 3) := by decide +kernel
theorem d_MD_load_39 : decode Y_MD_load.2.1 39 = .ok (.aload_n 0, 1) := by decide +kernel
theorem d_MD_load_40 : decode Y_MD_load.2.1 40 = .ok (.iconst (0), 1) := by decide +kernel
theorem d_MD_load_41 : decode Y_MD_load.2.1 41 = .ok (.putfield 192, 3) := by decide +kernel
theorem d_MD_load_44 : decode Y_MD_load.2.1 44 = .ok (.aload_n 0, 1) := by decide +kernel
theorem d_MD_load_45 : decode Y_MD_load.2.1 45 = .ok (.getfield 25, 3) := by decide +kernel
theorem d_MD_load_48 : decode Y_MD_load.2.1 48 = .ok (.iconst (0), 1) := by decide +kernel
theorem d_MD_load_49 : decode Y_MD_load.2.1 49 = .ok (.iconst (0), 1) := by decide +kernel
theorem d_MD_load_50 : decode Y_MD_load.2.1 50 = .ok (.bastore, 1) := by decide +kernel
theorem d_MD_load_51 : decode Y_MD_load.2.1 51 = .ok (.aload_n 0, 1) := by decide +kernel
theorem d_MD_load_52 : decode Y_MD_load.2.1 52 = .ok (.getfield 25, 3) := by decide +kernel
theorem d_MD_load_55 : decode Y_MD_load.2.1 55 = .ok (.iconst (1), 1) := by decide +kernel
theorem d_MD_load_56 : decode Y_MD_load.2.1 56 = .ok (.iconst (0), 1) := by decide +kernel
theorem d_MD_load_57 : decode Y_MD_load.2.1 57 = .ok (.bastore, 1) := by decide +kernel
theorem d_MD_load_58 : decode Y_MD_load.2.1 58 = .ok (.aload_n 0, 1) := by decide +kernel
theorem d_MD_load_59 : decode Y_MD_load.2.1 59 = .ok (.getfield 134, 3) := by decide +kernel
theorem d_MD_load_62 : decode Y_MD_load.2.1 62 = .ok (.ireturn, 1) := by decide +kernel
def f_MD_load (w : zW) (D : zD) (a : Nat) : Option (Int32 × zD) := zjp (fun (s0 : Nat) (s1 : Int32) (D1 : zD) => zobj w 8 s0 (zci (f_MD_refused w D1 s0 s1) (fun v2 D3 => (if v2 = 0 then zref w 8 4 a (fun p4 => zref w 8 3 a (fun p5 => zcv (f_MD_copyState w D3 p4 (0 : Int32) p5 (0 : Int32)) (fun D6 => zput w D6 8 6 a (0 : Int32) (fun D7 => zref w 8 8 a (fun p8 => zast w D7 2 p8 (0 : Int32) (vp_nar .boolean (0 : Int32)) (fun D9 => zref w 8 8 a (fun p10 => zast w D9 2 p10 (1 : Int32) (vp_nar .boolean (0 : Int32)) (fun D11 => zfld w D11 8 10 a (fun v12 => some (v12, D11)))))))))) else some ((0 : Int32), D3))))) (fun j18 => zref w 8 4 a (fun p13 => zobj w 8 a (zci (f_MD_readText w D a p13) (fun v14 D15 => (if v14 = (-1 : Int32) then j18 a (0 : Int32) D15 else j18 a (1 : Int32) D15)))))
set_option maxHeartbeats 4000000 in
set_option maxRecDepth 100000 in
theorem c_MD_load (z : zT) (D : zD) (a : Nat) : zM Y_MD_load 8 0 0 (zqI z) (f_MD_load z.2 D a) [.ref a] z D := by
  refine zM_of (plainFor_of_name (by decide +kernel)) rfl (Nat.le_of_ble_eq_true rfl) (fun _ _ _ _ h => nomatch h.1) (fun K => ?_)
  unfold f_MD_load
  refine z_jp (fun j18 : Nat → Int32 → zD → Option (Int32 × zD) => ∀ (s0 : Nat) (s1 : Int32) (D1 : zD), zGO K Y_MD_load 8 0 0 (zqI z) (j18 s0 s1 D1) 0 0 z D1 18 [(0, .ref a)] [.int s1, .ref s0]) (fun s0 s1 D1 => ?_) (fun j18 h18 => ?_)
  · refine z_callVi (pc := 18) [.int s1] lkV_MD_127 rfl (c_MD_refused z D1 s0 s1) (by decide) rfl rfl (Nat.le_of_ble_eq_true rfl) d_MD_load_18 (fun v2 D3 => ?_)
    refine z_if_eq (pc := 21) (tgt := 26) d_MD_load_21 (by decide) ?_ ?_
    · refine z_aload_n (pc := 26) d_MD_load_26 rfl 0 rfl ?_
      refine z_getR (pc := 27) fl_MD_16 d_MD_load_27 (fun p4 => ?_)
      refine z_iconst (pc := 30) d_MD_load_30 ki_0 ?_
      refine z_aload_n (pc := 31) d_MD_load_31 rfl 0 rfl ?_
      refine z_getR (pc := 32) fl_MD_13 d_MD_load_32 (fun p5 => ?_)
      refine z_iconst (pc := 35) d_MD_load_35 ki_0 ?_
      refine z_callSv (pc := 36) [.ref p4, .int (0 : Int32), .ref p5, .int (0 : Int32)] lkS_MD_188 (c_MD_copyState z D3 p4 (0 : Int32) p5 (0 : Int32)) (by decide) rfl rfl (Nat.le_of_ble_eq_true rfl) d_MD_load_36 (fun D6 => ?_)
      refine z_aload_n (pc := 39) d_MD_load_39 rfl 0 rfl ?_
      refine z_iconst (pc := 40) d_MD_load_40 ki_0 ?_
      refine z_putI (pc := 41) fl_MD_192 d_MD_load_41 (fun D7 => ?_)
      refine z_aload_n (pc := 44) d_MD_load_44 rfl 0 rfl ?_
      refine z_getR (pc := 45) fl_MD_25 d_MD_load_45 (fun p8 => ?_)
      refine z_iconst (pc := 48) d_MD_load_48 ki_0 ?_
      refine z_iconst (pc := 49) d_MD_load_49 ki_0 ?_
      refine z_bastore (pc := 50) d_MD_load_50 (fun D9 => ?_)
      refine z_aload_n (pc := 51) d_MD_load_51 rfl 0 rfl ?_
      refine z_getR (pc := 52) fl_MD_25 d_MD_load_52 (fun p10 => ?_)
      refine z_iconst (pc := 55) d_MD_load_55 ki_1 ?_
      refine z_iconst (pc := 56) d_MD_load_56 ki_0 ?_
      refine z_bastore (pc := 57) d_MD_load_57 (fun D11 => ?_)
      refine z_aload_n (pc := 58) d_MD_load_58 rfl 0 rfl ?_
      refine z_getI (pc := 59) fl_MD_134 d_MD_load_59 (fun v12 => ?_)
      exact z_iret (pc := 62) d_MD_load_62 rfl
    · refine z_iconst (pc := 24) d_MD_load_24 ki_0 ?_
      exact z_iret (pc := 25) d_MD_load_25 rfl
  · refine z_aload_n (pc := 0) d_MD_load_0 rfl 0 rfl ?_
    refine z_aload_n (pc := 1) d_MD_load_1 rfl 0 rfl ?_
    refine z_aload_n (pc := 2) d_MD_load_2 rfl 0 rfl ?_
    refine z_getR (pc := 3) fl_MD_16 d_MD_load_3 (fun p13 => ?_)
    refine z_callVi (pc := 6) [.ref p13] lkV_MD_184 rfl (c_MD_readText z D a p13) (by decide) rfl rfl (Nat.le_of_ble_eq_true rfl) d_MD_load_6 (fun v14 D15 => ?_)
    refine z_iconst (pc := 9) d_MD_load_9 ki_m1 ?_
    refine z_icmp_ne (pc := 10) (tgt := 17) d_MD_load_10 (by decide) ?_ ?_
    · refine z_iconst (pc := 13) d_MD_load_13 ki_0 ?_
      refine z_goto (pc := 14) (tgt := 18) d_MD_load_14 (by decide) ?_
      exact z_sub [0] rfl (h18 a (0 : Int32) D15)
    · refine z_iconst (pc := 17) d_MD_load_17 ki_1 ?_
      exact z_sub [0] rfl (h18 a (1 : Int32) D15)
