def Y_LW_sirens : zY := (⟨"SirenFairLaw", "sirens", "(LSirenFair;IIIII)I"⟩, method_2_code, 7, some .int, [(0, 11, 12, 13), (0, 11, 17, 16)])
theorem w_c_SF_siren : Cond.code Y_SF_siren.1 Y_SF_siren.2.1 Y_SF_siren.2.2.1 Y_SF_siren.2.2.2.1 ∈ zWd := zin 347 (by decide +kernel) rfl
theorem lk_SF_siren : zlk Y_SF_siren 5 := ⟨w_c_SF_siren, w_ini_SF, by decide +kernel, by decide +kernel, by decide⟩
theorem w_ml_LW_7 : Cond.methodLink "SirenFairLaw" 7 Y_SF_siren.1 ∈ zWd := zin 344 (by decide +kernel) rfl
theorem w_im_SF_siren : Cond.instanceMethod Y_SF_siren.1 ∈ zWd := zin 345 (by decide +kernel) rfl
theorem w_sel_SF_siren : Cond.selects "SirenFair" Y_SF_siren.1 Y_SF_siren.1 ∈ zWd := zin 346 (by decide +kernel) rfl
theorem lkV_LW_7 : zlkV "SirenFairLaw" 7 Y_SF_siren 5 := ⟨lk_SF_siren, w_ml_LW_7, w_im_SF_siren, w_sel_SF_siren⟩
theorem w_cl_LW_13 : Cond.classLink "SirenFairLaw" 13 "java/lang/IllegalArgumentException" ∈ zWd := zin 342 (by decide +kernel) rfl
theorem w_cast_IllegalArgumentException : Cond.castable "java/lang/IllegalArgumentException" "java/lang/IllegalArgumentException" ∈ zWd := zin 353 (by decide +kernel) rfl
theorem ct_LW_sirens_1 : zcatch Y_LW_sirens 8 "java/lang/IllegalArgumentException" 12 := ⟨[], ⟨0, 11, 12, 13⟩, [⟨0, 11, 17, 16⟩], rfl, rfl, by decide, by decide, w_cl_LW_13, w_cast_IllegalArgumentException, fun y hy => nomatch hy⟩
theorem w_k_LW_15 : Cond.constant "SirenFairLaw" 15 (-9999002) ∈ zWd := zin 475 (by decide +kernel) rfl
theorem w_cl_LW_16 : Cond.classLink "SirenFairLaw" 16 "java/lang/IllegalStateException" ∈ zWd := zin 343 (by decide +kernel) rfl
theorem w_cast_IllegalStateException : Cond.castable "java/lang/IllegalStateException" "java/lang/IllegalStateException" ∈ zWd := zin 422 (by decide +kernel) rfl
theorem ct_LW_sirens_2 : zcatch Y_LW_sirens 8 "java/lang/IllegalStateException" 17 := ⟨[⟨0, 11, 12, 13⟩], ⟨0, 11, 17, 16⟩, [], rfl, rfl, by decide, by decide, w_cl_LW_16, w_cast_IllegalStateException, fun y hy => by rcases List.mem_singleton.mp hy with rfl; exact ⟨by decide, "java/lang/IllegalArgumentException", w_cl_LW_13, by decide⟩⟩
theorem w_k_LW_18 : Cond.constant "SirenFairLaw" 18 (-9999003) ∈ zWd := zin 476 (by decide +kernel) rfl
def Y_LW_hearers : zY := (⟨"SirenFairLaw", "hearers", "(LSirenFair;IIII)I"⟩, method_3_code, 6, some .int, [(0, 9, 10, 13), (0, 9, 15, 16)])
theorem w_c_SF_hearer : Cond.code Y_SF_hearer.1 Y_SF_hearer.2.1 Y_SF_hearer.2.2.1 Y_SF_hearer.2.2.2.1 ∈ zWd := zin 483 (by decide +kernel) rfl
theorem lk_SF_hearer : zlk Y_SF_hearer 4 := ⟨w_c_SF_hearer, w_ini_SF, by decide +kernel, by decide +kernel, by decide⟩
theorem w_ml_LW_19 : Cond.methodLink "SirenFairLaw" 19 Y_SF_hearer.1 ∈ zWd := zin 480 (by decide +kernel) rfl
theorem w_im_SF_hearer : Cond.instanceMethod Y_SF_hearer.1 ∈ zWd := zin 481 (by decide +kernel) rfl
theorem w_sel_SF_hearer : Cond.selects "SirenFair" Y_SF_hearer.1 Y_SF_hearer.1 ∈ zWd := zin 482 (by decide +kernel) rfl
theorem lkV_LW_19 : zlkV "SirenFairLaw" 19 Y_SF_hearer 4 := ⟨lk_SF_hearer, w_ml_LW_19, w_im_SF_hearer, w_sel_SF_hearer⟩
theorem ct_LW_hearers_1 : zcatch Y_LW_hearers 6 "java/lang/IllegalArgumentException" 10 := ⟨[], ⟨0, 9, 10, 13⟩, [⟨0, 9, 15, 16⟩], rfl, rfl, by decide, by decide, w_cl_LW_13, w_cast_IllegalArgumentException, fun y hy => nomatch hy⟩
theorem ct_LW_hearers_2 : zcatch Y_LW_hearers 6 "java/lang/IllegalStateException" 15 := ⟨[⟨0, 9, 10, 13⟩], ⟨0, 9, 15, 16⟩, [], rfl, rfl, by decide, by decide, w_cl_LW_16, w_cast_IllegalStateException, fun y hy => by rcases List.mem_singleton.mp hy with rfl; exact ⟨by decide, "java/lang/IllegalArgumentException", w_cl_LW_13, by decide⟩⟩
def Y_LW_walls : zY := (⟨"SirenFairLaw", "walls", "(LSirenFair;ZI)I"⟩, method_4_code, 4, some .int, [(0, 6, 7, 13), (0, 6, 11, 16)])
theorem w_c_SF_wall : Cond.code Y_SF_wall.1 Y_SF_wall.2.1 Y_SF_wall.2.2.1 Y_SF_wall.2.2.2.1 ∈ zWd := zin 889 (by decide +kernel) rfl
theorem lk_SF_wall : zlk Y_SF_wall 2 := ⟨w_c_SF_wall, w_ini_SF, by decide +kernel, by decide +kernel, by decide⟩
theorem w_ml_LW_23 : Cond.methodLink "SirenFairLaw" 23 Y_SF_wall.1 ∈ zWd := zin 886 (by decide +kernel) rfl
theorem w_im_SF_wall : Cond.instanceMethod Y_SF_wall.1 ∈ zWd := zin 887 (by decide +kernel) rfl
theorem w_sel_SF_wall : Cond.selects "SirenFair" Y_SF_wall.1 Y_SF_wall.1 ∈ zWd := zin 888 (by decide +kernel) rfl
theorem lkV_LW_23 : zlkV "SirenFairLaw" 23 Y_SF_wall 2 := ⟨lk_SF_wall, w_ml_LW_23, w_im_SF_wall, w_sel_SF_wall⟩
theorem ct_LW_walls_1 : zcatch Y_LW_walls 3 "java/lang/IllegalArgumentException" 7 := ⟨[], ⟨0, 6, 7, 13⟩, [⟨0, 6, 11, 16⟩], rfl, rfl, by decide, by decide, w_cl_LW_13, w_cast_IllegalArgumentException, fun y hy => nomatch hy⟩
theorem ct_LW_walls_2 : zcatch Y_LW_walls 3 "java/lang/IllegalStateException" 11 := ⟨[⟨0, 6, 7, 13⟩], ⟨0, 6, 11, 16⟩, [], rfl, rfl, by decide, by decide, w_cl_LW_16, w_cast_IllegalStateException, fun y hy => by rcases List.mem_singleton.mp hy with rfl; exact ⟨by decide, "java/lang/IllegalArgumentException", w_cl_LW_13, by decide⟩⟩
def Y_LW_turned : zY := (⟨"SirenFairLaw", "turned", "(LSirenFair;IZ)I"⟩, method_5_code, 4, some .int, [(0, 6, 7, 31)])
theorem w_c_SF_turn : Cond.code Y_SF_turn.1 Y_SF_turn.2.1 Y_SF_turn.2.2.1 Y_SF_turn.2.2.2.1 ∈ zWd := zin 898 (by decide +kernel) rfl
theorem lk_SF_turn : zlk Y_SF_turn 2 := ⟨w_c_SF_turn, w_ini_SF, by decide +kernel, by decide +kernel, by decide⟩
theorem w_ml_LW_27 : Cond.methodLink "SirenFairLaw" 27 Y_SF_turn.1 ∈ zWd := zin 895 (by decide +kernel) rfl
theorem w_im_SF_turn : Cond.instanceMethod Y_SF_turn.1 ∈ zWd := zin 896 (by decide +kernel) rfl
theorem w_sel_SF_turn : Cond.selects "SirenFair" Y_SF_turn.1 Y_SF_turn.1 ∈ zWd := zin 897 (by decide +kernel) rfl
theorem lkV_LW_27 : zlkV "SirenFairLaw" 27 Y_SF_turn 2 := ⟨lk_SF_turn, w_ml_LW_27, w_im_SF_turn, w_sel_SF_turn⟩
theorem w_cl_LW_31 : Cond.classLink "SirenFairLaw" 31 "java/lang/IndexOutOfBoundsException" ∈ zWd := zin 697 (by decide +kernel) rfl
theorem w_cast_IndexOutOfBoundsException : Cond.castable "java/lang/IndexOutOfBoundsException" "java/lang/IndexOutOfBoundsException" ∈ zWd := zin 705 (by decide +kernel) rfl
theorem ct_LW_turned_1 : zcatch Y_LW_turned 3 "java/lang/IndexOutOfBoundsException" 7 := ⟨[], ⟨0, 6, 7, 31⟩, [], rfl, rfl, by decide, by decide, w_cl_LW_31, w_cast_IndexOutOfBoundsException, fun y hy => nomatch hy⟩
theorem w_k_LW_33 : Cond.constant "SirenFairLaw" 33 (-9999001) ∈ zWd := zin 722 (by decide +kernel) rfl
def Y_LW_doScript : zY := (⟨"SirenFairLaw", "doScript", "(LSirenFair;IJ)I"⟩, method_6_code, 5, some .int, [(0, 6, 7, 13)])
theorem w_c_SF_runScript : Cond.code Y_SF_runScript.1 Y_SF_runScript.2.1 Y_SF_runScript.2.2.1 Y_SF_runScript.2.2.2.1 ∈ zWd := zin 909 (by decide +kernel) rfl
theorem lk_SF_runScript : zlk Y_SF_runScript 2 := ⟨w_c_SF_runScript, w_ini_SF, by decide +kernel, by decide +kernel, by decide⟩
theorem w_ml_LW_34 : Cond.methodLink "SirenFairLaw" 34 Y_SF_runScript.1 ∈ zWd := zin 906 (by decide +kernel) rfl
theorem w_im_SF_runScript : Cond.instanceMethod Y_SF_runScript.1 ∈ zWd := zin 907 (by decide +kernel) rfl
theorem w_sel_SF_runScript : Cond.selects "SirenFair" Y_SF_runScript.1 Y_SF_runScript.1 ∈ zWd := zin 908 (by decide +kernel) rfl
theorem lkV_LW_34 : zlkV "SirenFairLaw" 34 Y_SF_runScript 2 := ⟨lk_SF_runScript, w_ml_LW_34, w_im_SF_runScript, w_sel_SF_runScript⟩
theorem ct_LW_doScript_1 : zcatch Y_LW_doScript 3 "java/lang/IllegalArgumentException" 7 := ⟨[], ⟨0, 6, 7, 13⟩, [], rfl, rfl, by decide, by decide, w_cl_LW_13, w_cast_IllegalArgumentException, fun y hy => nomatch hy⟩
def Y_LW_doSimulate : zY := (⟨"SirenFairLaw", "doSimulate", "(LSirenFair;JI)I"⟩, method_7_code, 5, some .int, [(0, 6, 7, 13)])
theorem w_c_SF_simulate : Cond.code Y_SF_simulate.1 Y_SF_simulate.2.1 Y_SF_simulate.2.2.1 Y_SF_simulate.2.2.2.1 ∈ zWd := zin 924 (by decide +kernel) rfl
theorem lk_SF_simulate : zlk Y_SF_simulate 2 := ⟨w_c_SF_simulate, w_ini_SF, by decide +kernel, by decide +kernel, by decide⟩
theorem w_ml_LW_38 : Cond.methodLink "SirenFairLaw" 38 Y_SF_simulate.1 ∈ zWd := zin 921 (by decide +kernel) rfl
theorem w_im_SF_simulate : Cond.instanceMethod Y_SF_simulate.1 ∈ zWd := zin 922 (by decide +kernel) rfl
theorem w_sel_SF_simulate : Cond.selects "SirenFair" Y_SF_simulate.1 Y_SF_simulate.1 ∈ zWd := zin 923 (by decide +kernel) rfl
theorem lkV_LW_38 : zlkV "SirenFairLaw" 38 Y_SF_simulate 2 := ⟨lk_SF_simulate, w_ml_LW_38, w_im_SF_simulate, w_sel_SF_simulate⟩
theorem ct_LW_doSimulate_1 : zcatch Y_LW_doSimulate 3 "java/lang/IllegalArgumentException" 7 := ⟨[], ⟨0, 6, 7, 13⟩, [], rfl, rfl, by decide, by decide, w_cl_LW_13, w_cast_IllegalArgumentException, fun y hy => nomatch hy⟩
def Y_LW_tryAppend : zY := (⟨"SirenFairLaw", "tryAppend", "(LSirenFair;I)I"⟩, method_8_code, 3, some .int, [(0, 5, 6, 13), (0, 5, 10, 16)])
theorem w_c_SF_append : Cond.code Y_SF_append.1 Y_SF_append.2.1 Y_SF_append.2.2.1 Y_SF_append.2.2.2.1 ∈ zWd := zin 508 (by decide +kernel) rfl
theorem lk_SF_append : zlk Y_SF_append 1 := ⟨w_c_SF_append, w_ini_SF, by decide +kernel, by decide +kernel, by decide⟩
theorem w_ml_LW_42 : Cond.methodLink "SirenFairLaw" 42 Y_SF_append.1 ∈ zWd := zin 505 (by decide +kernel) rfl
theorem w_im_SF_append : Cond.instanceMethod Y_SF_append.1 ∈ zWd := zin 506 (by decide +kernel) rfl
theorem w_sel_SF_append : Cond.selects "SirenFair" Y_SF_append.1 Y_SF_append.1 ∈ zWd := zin 507 (by decide +kernel) rfl
theorem lkV_LW_42 : zlkV "SirenFairLaw" 42 Y_SF_append 1 := ⟨lk_SF_append, w_ml_LW_42, w_im_SF_append, w_sel_SF_append⟩
theorem ct_LW_tryAppend_1 : zcatch Y_LW_tryAppend 2 "java/lang/IllegalArgumentException" 6 := ⟨[], ⟨0, 5, 6, 13⟩, [⟨0, 5, 10, 16⟩], rfl, rfl, by decide, by decide, w_cl_LW_13, w_cast_IllegalArgumentException, fun y hy => nomatch hy⟩
theorem ct_LW_tryAppend_2 : zcatch Y_LW_tryAppend 2 "java/lang/IllegalStateException" 10 := ⟨[⟨0, 5, 6, 13⟩], ⟨0, 5, 10, 16⟩, [], rfl, rfl, by decide, by decide, w_cl_LW_16, w_cast_IllegalStateException, fun y hy => by rcases List.mem_singleton.mp hy with rfl; exact ⟨by decide, "java/lang/IllegalArgumentException", w_cl_LW_13, by decide⟩⟩
def Y_LW_tryLoad : zY := (⟨"SirenFairLaw", "tryLoad", "(LSirenFair;)I"⟩, method_9_code, 2, some .int, [(0, 4, 5, 16)])
theorem w_c_SF_load : Cond.code Y_SF_load.1 Y_SF_load.2.1 Y_SF_load.2.2.1 Y_SF_load.2.2.2.1 ∈ zWd := zin 521 (by decide +kernel) rfl
theorem lk_SF_load : zlk Y_SF_load 0 := ⟨w_c_SF_load, w_ini_SF, by decide +kernel, by decide +kernel, by decide⟩
theorem w_ml_LW_46 : Cond.methodLink "SirenFairLaw" 46 Y_SF_load.1 ∈ zWd := zin 518 (by decide +kernel) rfl
theorem w_im_SF_load : Cond.instanceMethod Y_SF_load.1 ∈ zWd := zin 519 (by decide +kernel) rfl
theorem w_sel_SF_load : Cond.selects "SirenFair" Y_SF_load.1 Y_SF_load.1 ∈ zWd := zin 520 (by decide +kernel) rfl
theorem lkV_LW_46 : zlkV "SirenFairLaw" 46 Y_SF_load 0 := ⟨lk_SF_load, w_ml_LW_46, w_im_SF_load, w_sel_SF_load⟩
theorem ct_LW_tryLoad_1 : zcatch Y_LW_tryLoad 1 "java/lang/IllegalStateException" 5 := ⟨[], ⟨0, 4, 5, 16⟩, [], rfl, rfl, by decide, by decide, w_cl_LW_16, w_cast_IllegalStateException, fun y hy => nomatch hy⟩
def Y_LW_tryAbout : zY := (⟨"SirenFairLaw", "tryAbout", "(LSirenFair;I)I"⟩, method_10_code, 3, some .int, [(0, 5, 6, 13)])
theorem w_c_SF_about : Cond.code Y_SF_about.1 Y_SF_about.2.1 Y_SF_about.2.2.1 Y_SF_about.2.2.2.1 ∈ zWd := zin 692 (by decide +kernel) rfl
theorem lk_SF_about : zlk Y_SF_about 1 := ⟨w_c_SF_about, w_ini_SF, by decide +kernel, by decide +kernel, by decide⟩
theorem w_ml_LW_50 : Cond.methodLink "SirenFairLaw" 50 Y_SF_about.1 ∈ zWd := zin 689 (by decide +kernel) rfl
theorem w_im_SF_about : Cond.instanceMethod Y_SF_about.1 ∈ zWd := zin 690 (by decide +kernel) rfl
theorem w_sel_SF_about : Cond.selects "SirenFair" Y_SF_about.1 Y_SF_about.1 ∈ zWd := zin 691 (by decide +kernel) rfl
theorem lkV_LW_50 : zlkV "SirenFairLaw" 50 Y_SF_about 1 := ⟨lk_SF_about, w_ml_LW_50, w_im_SF_about, w_sel_SF_about⟩
theorem ct_LW_tryAbout_1 : zcatch Y_LW_tryAbout 2 "java/lang/IllegalArgumentException" 6 := ⟨[], ⟨0, 5, 6, 13⟩, [], rfl, rfl, by decide, by decide, w_cl_LW_13, w_cast_IllegalArgumentException, fun y hy => nomatch hy⟩
def Y_LW_trySiren : zY := (⟨"SirenFairLaw", "trySiren", "(LSirenFair;II)I"⟩, method_11_code, 4, some .int, [(0, 6, 7, 31), (0, 6, 11, 13)])
theorem w_c_SF_sirenOf : Cond.code Y_SF_sirenOf.1 Y_SF_sirenOf.2.1 Y_SF_sirenOf.2.2.1 Y_SF_sirenOf.2.2.2.1 ∈ zWd := zin 701 (by decide +kernel) rfl
theorem lk_SF_sirenOf : zlk Y_SF_sirenOf 2 := ⟨w_c_SF_sirenOf, w_ini_SF, by decide +kernel, by decide +kernel, by decide⟩
theorem w_ml_LW_53 : Cond.methodLink "SirenFairLaw" 53 Y_SF_sirenOf.1 ∈ zWd := zin 698 (by decide +kernel) rfl
theorem w_im_SF_sirenOf : Cond.instanceMethod Y_SF_sirenOf.1 ∈ zWd := zin 699 (by decide +kernel) rfl
theorem w_sel_SF_sirenOf : Cond.selects "SirenFair" Y_SF_sirenOf.1 Y_SF_sirenOf.1 ∈ zWd := zin 700 (by decide +kernel) rfl
theorem lkV_LW_53 : zlkV "SirenFairLaw" 53 Y_SF_sirenOf 2 := ⟨lk_SF_sirenOf, w_ml_LW_53, w_im_SF_sirenOf, w_sel_SF_sirenOf⟩
theorem ct_LW_trySiren_1 : zcatch Y_LW_trySiren 3 "java/lang/IndexOutOfBoundsException" 7 := ⟨[], ⟨0, 6, 7, 31⟩, [⟨0, 6, 11, 13⟩], rfl, rfl, by decide, by decide, w_cl_LW_31, w_cast_IndexOutOfBoundsException, fun y hy => nomatch hy⟩
theorem ct_LW_trySiren_2 : zcatch Y_LW_trySiren 3 "java/lang/IllegalArgumentException" 11 := ⟨[⟨0, 6, 7, 31⟩], ⟨0, 6, 11, 13⟩, [], rfl, rfl, by decide, by decide, w_cl_LW_13, w_cast_IllegalArgumentException, fun y hy => by rcases List.mem_singleton.mp hy with rfl; exact ⟨by decide, "java/lang/IndexOutOfBoundsException", w_cl_LW_31, by decide⟩⟩
def Y_LW_tryHearer : zY := (⟨"SirenFairLaw", "tryHearer", "(LSirenFair;II)I"⟩, method_12_code, 4, some .int, [(0, 6, 7, 31), (0, 6, 11, 13)])
theorem w_c_SF_hearerOf : Cond.code Y_SF_hearerOf.1 Y_SF_hearerOf.2.1 Y_SF_hearerOf.2.2.1 Y_SF_hearerOf.2.2.2.1 ∈ zWd := zin 729 (by decide +kernel) rfl
theorem lk_SF_hearerOf : zlk Y_SF_hearerOf 2 := ⟨w_c_SF_hearerOf, w_ini_SF, by decide +kernel, by decide +kernel, by decide⟩
theorem w_ml_LW_57 : Cond.methodLink "SirenFairLaw" 57 Y_SF_hearerOf.1 ∈ zWd := zin 726 (by decide +kernel) rfl
theorem w_im_SF_hearerOf : Cond.instanceMethod Y_SF_hearerOf.1 ∈ zWd := zin 727 (by decide +kernel) rfl
theorem w_sel_SF_hearerOf : Cond.selects "SirenFair" Y_SF_hearerOf.1 Y_SF_hearerOf.1 ∈ zWd := zin 728 (by decide +kernel) rfl
theorem lkV_LW_57 : zlkV "SirenFairLaw" 57 Y_SF_hearerOf 2 := ⟨lk_SF_hearerOf, w_ml_LW_57, w_im_SF_hearerOf, w_sel_SF_hearerOf⟩
theorem ct_LW_tryHearer_1 : zcatch Y_LW_tryHearer 3 "java/lang/IndexOutOfBoundsException" 7 := ⟨[], ⟨0, 6, 7, 31⟩, [⟨0, 6, 11, 13⟩], rfl, rfl, by decide, by decide, w_cl_LW_31, w_cast_IndexOutOfBoundsException, fun y hy => nomatch hy⟩
theorem ct_LW_tryHearer_2 : zcatch Y_LW_tryHearer 3 "java/lang/IllegalArgumentException" 11 := ⟨[⟨0, 6, 7, 31⟩], ⟨0, 6, 11, 13⟩, [], rfl, rfl, by decide, by decide, w_cl_LW_13, w_cast_IllegalArgumentException, fun y hy => by rcases List.mem_singleton.mp hy with rfl; exact ⟨by decide, "java/lang/IndexOutOfBoundsException", w_cl_LW_31, by decide⟩⟩
def Y_LW_tryWall : zY := (⟨"SirenFairLaw", "tryWall", "(LSirenFair;II)I"⟩, method_13_code, 4, some .int, [(0, 6, 7, 31), (0, 6, 11, 13)])
theorem w_c_SF_wallOf : Cond.code Y_SF_wallOf.1 Y_SF_wallOf.2.1 Y_SF_wallOf.2.2.1 Y_SF_wallOf.2.2.2.1 ∈ zWd := zin 749 (by decide +kernel) rfl
theorem lk_SF_wallOf : zlk Y_SF_wallOf 2 := ⟨w_c_SF_wallOf, w_ini_SF, by decide +kernel, by decide +kernel, by decide⟩
theorem w_ml_LW_60 : Cond.methodLink "SirenFairLaw" 60 Y_SF_wallOf.1 ∈ zWd := zin 746 (by decide +kernel) rfl
theorem w_im_SF_wallOf : Cond.instanceMethod Y_SF_wallOf.1 ∈ zWd := zin 747 (by decide +kernel) rfl
theorem w_sel_SF_wallOf : Cond.selects "SirenFair" Y_SF_wallOf.1 Y_SF_wallOf.1 ∈ zWd := zin 748 (by decide +kernel) rfl
theorem lkV_LW_60 : zlkV "SirenFairLaw" 60 Y_SF_wallOf 2 := ⟨lk_SF_wallOf, w_ml_LW_60, w_im_SF_wallOf, w_sel_SF_wallOf⟩
theorem ct_LW_tryWall_1 : zcatch Y_LW_tryWall 3 "java/lang/IndexOutOfBoundsException" 7 := ⟨[], ⟨0, 6, 7, 31⟩, [⟨0, 6, 11, 13⟩], rfl, rfl, by decide, by decide, w_cl_LW_31, w_cast_IndexOutOfBoundsException, fun y hy => nomatch hy⟩
theorem ct_LW_tryWall_2 : zcatch Y_LW_tryWall 3 "java/lang/IllegalArgumentException" 11 := ⟨[⟨0, 6, 7, 31⟩], ⟨0, 6, 11, 13⟩, [], rfl, rfl, by decide, by decide, w_cl_LW_13, w_cast_IllegalArgumentException, fun y hy => by rcases List.mem_singleton.mp hy with rfl; exact ⟨by decide, "java/lang/IndexOutOfBoundsException", w_cl_LW_31, by decide⟩⟩
def Y_LW_tryPulse : zY := (⟨"SirenFairLaw", "tryPulse", "(LSirenFair;II)I"⟩, method_14_code, 4, some .int, [(0, 6, 7, 31), (0, 6, 11, 13)])
theorem w_c_SF_pulse : Cond.code Y_SF_pulse.1 Y_SF_pulse.2.1 Y_SF_pulse.2.2.1 Y_SF_pulse.2.2.2.1 ∈ zWd := zin 762 (by decide +kernel) rfl
theorem lk_SF_pulse : zlk Y_SF_pulse 2 := ⟨w_c_SF_pulse, w_ini_SF, by decide +kernel, by decide +kernel, by decide⟩
theorem w_ml_LW_63 : Cond.methodLink "SirenFairLaw" 63 Y_SF_pulse.1 ∈ zWd := zin 759 (by decide +kernel) rfl
theorem w_im_SF_pulse : Cond.instanceMethod Y_SF_pulse.1 ∈ zWd := zin 760 (by decide +kernel) rfl
theorem w_sel_SF_pulse : Cond.selects "SirenFair" Y_SF_pulse.1 Y_SF_pulse.1 ∈ zWd := zin 761 (by decide +kernel) rfl
theorem lkV_LW_63 : zlkV "SirenFairLaw" 63 Y_SF_pulse 2 := ⟨lk_SF_pulse, w_ml_LW_63, w_im_SF_pulse, w_sel_SF_pulse⟩
theorem ct_LW_tryPulse_1 : zcatch Y_LW_tryPulse 3 "java/lang/IndexOutOfBoundsException" 7 := ⟨[], ⟨0, 6, 7, 31⟩, [⟨0, 6, 11, 13⟩], rfl, rfl, by decide, by decide, w_cl_LW_31, w_cast_IndexOutOfBoundsException, fun y hy => nomatch hy⟩
theorem ct_LW_tryPulse_2 : zcatch Y_LW_tryPulse 3 "java/lang/IllegalArgumentException" 11 := ⟨[⟨0, 6, 7, 31⟩], ⟨0, 6, 11, 13⟩, [], rfl, rfl, by decide, by decide, w_cl_LW_13, w_cast_IllegalArgumentException, fun y hy => by rcases List.mem_singleton.mp hy with rfl; exact ⟨by decide, "java/lang/IndexOutOfBoundsException", w_cl_LW_31, by decide⟩⟩
def Y_LW_tryHeard : zY := (⟨"SirenFairLaw", "tryHeard", "(LSirenFair;III)I"⟩, method_15_code, 5, some .int, [(0, 7, 8, 31), (0, 7, 13, 13)])
theorem w_c_SF_heard : Cond.code Y_SF_heard.1 Y_SF_heard.2.1 Y_SF_heard.2.2.1 Y_SF_heard.2.2.2.1 ∈ zWd := zin 771 (by decide +kernel) rfl
theorem lk_SF_heard : zlk Y_SF_heard 3 := ⟨w_c_SF_heard, w_ini_SF, by decide +kernel, by decide +kernel, by decide⟩
theorem w_ml_LW_66 : Cond.methodLink "SirenFairLaw" 66 Y_SF_heard.1 ∈ zWd := zin 768 (by decide +kernel) rfl
theorem w_im_SF_heard : Cond.instanceMethod Y_SF_heard.1 ∈ zWd := zin 769 (by decide +kernel) rfl
theorem w_sel_SF_heard : Cond.selects "SirenFair" Y_SF_heard.1 Y_SF_heard.1 ∈ zWd := zin 770 (by decide +kernel) rfl
theorem lkV_LW_66 : zlkV "SirenFairLaw" 66 Y_SF_heard 3 := ⟨lk_SF_heard, w_ml_LW_66, w_im_SF_heard, w_sel_SF_heard⟩
theorem ct_LW_tryHeard_1 : zcatch Y_LW_tryHeard 4 "java/lang/IndexOutOfBoundsException" 8 := ⟨[], ⟨0, 7, 8, 31⟩, [⟨0, 7, 13, 13⟩], rfl, rfl, by decide, by decide, w_cl_LW_31, w_cast_IndexOutOfBoundsException, fun y hy => nomatch hy⟩
theorem ct_LW_tryHeard_2 : zcatch Y_LW_tryHeard 4 "java/lang/IllegalArgumentException" 13 := ⟨[⟨0, 7, 8, 31⟩], ⟨0, 7, 13, 13⟩, [], rfl, rfl, by decide, by decide, w_cl_LW_13, w_cast_IllegalArgumentException, fun y hy => by rcases List.mem_singleton.mp hy with rfl; exact ⟨by decide, "java/lang/IndexOutOfBoundsException", w_cl_LW_31, by decide⟩⟩
def Y_LW_tryWalk : zY := (⟨"SirenFairLaw", "tryWalk", "(LSirenFair;III)I"⟩, method_16_code, 5, some .int, [(0, 7, 8, 31), (0, 7, 13, 13)])
theorem w_c_SF_walk : Cond.code Y_SF_walk.1 Y_SF_walk.2.1 Y_SF_walk.2.2.1 Y_SF_walk.2.2.2.1 ∈ zWd := zin 791 (by decide +kernel) rfl
theorem lk_SF_walk : zlk Y_SF_walk 3 := ⟨w_c_SF_walk, w_ini_SF, by decide +kernel, by decide +kernel, by decide⟩
theorem w_ml_LW_70 : Cond.methodLink "SirenFairLaw" 70 Y_SF_walk.1 ∈ zWd := zin 788 (by decide +kernel) rfl
theorem w_im_SF_walk : Cond.instanceMethod Y_SF_walk.1 ∈ zWd := zin 789 (by decide +kernel) rfl
theorem w_sel_SF_walk : Cond.selects "SirenFair" Y_SF_walk.1 Y_SF_walk.1 ∈ zWd := zin 790 (by decide +kernel) rfl
theorem lkV_LW_70 : zlkV "SirenFairLaw" 70 Y_SF_walk 3 := ⟨lk_SF_walk, w_ml_LW_70, w_im_SF_walk, w_sel_SF_walk⟩
theorem ct_LW_tryWalk_1 : zcatch Y_LW_tryWalk 4 "java/lang/IndexOutOfBoundsException" 8 := ⟨[], ⟨0, 7, 8, 31⟩, [⟨0, 7, 13, 13⟩], rfl, rfl, by decide, by decide, w_cl_LW_31, w_cast_IndexOutOfBoundsException, fun y hy => nomatch hy⟩
theorem ct_LW_tryWalk_2 : zcatch Y_LW_tryWalk 4 "java/lang/IllegalArgumentException" 13 := ⟨[⟨0, 7, 8, 31⟩], ⟨0, 7, 13, 13⟩, [], rfl, rfl, by decide, by decide, w_cl_LW_13, w_cast_IllegalArgumentException, fun y hy => by rcases List.mem_singleton.mp hy with rfl; exact ⟨by decide, "java/lang/IndexOutOfBoundsException", w_cl_LW_31, by decide⟩⟩
def Y_LW_tryTicks : zY := (⟨"SirenFairLaw", "tryTicks", "(LSirenFair;I)I"⟩, method_17_code, 3, some .int, [(0, 5, 6, 13)])
theorem w_c_SF_ticks : Cond.code Y_SF_ticks.1 Y_SF_ticks.2.1 Y_SF_ticks.2.2.1 Y_SF_ticks.2.2.2.1 ∈ zWd := zin 803 (by decide +kernel) rfl
theorem lk_SF_ticks : zlk Y_SF_ticks 1 := ⟨w_c_SF_ticks, w_ini_SF, by decide +kernel, by decide +kernel, by decide⟩
theorem w_ml_LW_73 : Cond.methodLink "SirenFairLaw" 73 Y_SF_ticks.1 ∈ zWd := zin 800 (by decide +kernel) rfl
theorem w_im_SF_ticks : Cond.instanceMethod Y_SF_ticks.1 ∈ zWd := zin 801 (by decide +kernel) rfl
theorem w_sel_SF_ticks : Cond.selects "SirenFair" Y_SF_ticks.1 Y_SF_ticks.1 ∈ zWd := zin 802 (by decide +kernel) rfl
theorem lkV_LW_73 : zlkV "SirenFairLaw" 73 Y_SF_ticks 1 := ⟨lk_SF_ticks, w_ml_LW_73, w_im_SF_ticks, w_sel_SF_ticks⟩
theorem ct_LW_tryTicks_1 : zcatch Y_LW_tryTicks 2 "java/lang/IllegalArgumentException" 6 := ⟨[], ⟨0, 5, 6, 13⟩, [], rfl, rfl, by decide, by decide, w_cl_LW_13, w_cast_IllegalArgumentException, fun y hy => nomatch hy⟩
def Y_LW_tryLay : zY := (⟨"SirenFairLaw", "tryLay", "(LSirenFair;II)I"⟩, method_18_code, 4, some .int, [(0, 6, 7, 13)])
theorem w_c_SF_set : Cond.code Y_SF_set.1 Y_SF_set.2.1 Y_SF_set.2.2.1 Y_SF_set.2.2.2.1 ∈ zWd := zin 811 (by decide +kernel) rfl
theorem lk_SF_set : zlk Y_SF_set 2 := ⟨w_c_SF_set, w_ini_SF, by decide +kernel, by decide +kernel, by decide⟩
theorem w_ml_LW_76 : Cond.methodLink "SirenFairLaw" 76 Y_SF_set.1 ∈ zWd := zin 808 (by decide +kernel) rfl
theorem w_im_SF_set : Cond.instanceMethod Y_SF_set.1 ∈ zWd := zin 809 (by decide +kernel) rfl
theorem w_sel_SF_set : Cond.selects "SirenFair" Y_SF_set.1 Y_SF_set.1 ∈ zWd := zin 810 (by decide +kernel) rfl
theorem lkV_LW_76 : zlkV "SirenFairLaw" 76 Y_SF_set 2 := ⟨lk_SF_set, w_ml_LW_76, w_im_SF_set, w_sel_SF_set⟩
theorem ct_LW_tryLay_1 : zcatch Y_LW_tryLay 3 "java/lang/IllegalArgumentException" 7 := ⟨[], ⟨0, 6, 7, 13⟩, [], rfl, rfl, by decide, by decide, w_cl_LW_13, w_cast_IllegalArgumentException, fun y hy => nomatch hy⟩
def Y_LW_tryUndo : zY := (⟨"SirenFairLaw", "tryUndo", "(LSirenFair;)I"⟩, method_19_code, 2, some .int, [(0, 4, 5, 16)])
theorem w_c_SF_undo : Cond.code Y_SF_undo.1 Y_SF_undo.2.1 Y_SF_undo.2.2.1 Y_SF_undo.2.2.2.1 ∈ zWd := zin 827 (by decide +kernel) rfl
theorem lk_SF_undo : zlk Y_SF_undo 0 := ⟨w_c_SF_undo, w_ini_SF, by decide +kernel, by decide +kernel, by decide⟩
theorem w_ml_LW_79 : Cond.methodLink "SirenFairLaw" 79 Y_SF_undo.1 ∈ zWd := zin 824 (by decide +kernel) rfl
theorem w_im_SF_undo : Cond.instanceMethod Y_SF_undo.1 ∈ zWd := zin 825 (by decide +kernel) rfl
theorem w_sel_SF_undo : Cond.selects "SirenFair" Y_SF_undo.1 Y_SF_undo.1 ∈ zWd := zin 826 (by decide +kernel) rfl
theorem lkV_LW_79 : zlkV "SirenFairLaw" 79 Y_SF_undo 0 := ⟨lk_SF_undo, w_ml_LW_79, w_im_SF_undo, w_sel_SF_undo⟩
theorem ct_LW_tryUndo_1 : zcatch Y_LW_tryUndo 1 "java/lang/IllegalStateException" 5 := ⟨[], ⟨0, 4, 5, 16⟩, [], rfl, rfl, by decide, by decide, w_cl_LW_16, w_cast_IllegalStateException, fun y hy => nomatch hy⟩
def Y_LW_tryIn : zY := (⟨"SirenFairLaw", "tryIn", "(LSirenFair;III)I"⟩, method_20_code, 5, some .int, [(0, 7, 8, 31), (0, 7, 13, 13)])
theorem w_c_SF_sirenIn : Cond.code Y_SF_sirenIn.1 Y_SF_sirenIn.2.1 Y_SF_sirenIn.2.2.1 Y_SF_sirenIn.2.2.2.1 ∈ zWd := zin 835 (by decide +kernel) rfl
theorem lk_SF_sirenIn : zlk Y_SF_sirenIn 3 := ⟨w_c_SF_sirenIn, w_ini_SF, by decide +kernel, by decide +kernel, by decide⟩
theorem w_ml_LW_82 : Cond.methodLink "SirenFairLaw" 82 Y_SF_sirenIn.1 ∈ zWd := zin 832 (by decide +kernel) rfl
theorem w_im_SF_sirenIn : Cond.instanceMethod Y_SF_sirenIn.1 ∈ zWd := zin 833 (by decide +kernel) rfl
theorem w_sel_SF_sirenIn : Cond.selects "SirenFair" Y_SF_sirenIn.1 Y_SF_sirenIn.1 ∈ zWd := zin 834 (by decide +kernel) rfl
theorem lkV_LW_82 : zlkV "SirenFairLaw" 82 Y_SF_sirenIn 3 := ⟨lk_SF_sirenIn, w_ml_LW_82, w_im_SF_sirenIn, w_sel_SF_sirenIn⟩
theorem ct_LW_tryIn_1 : zcatch Y_LW_tryIn 4 "java/lang/IndexOutOfBoundsException" 8 := ⟨[], ⟨0, 7, 8, 31⟩, [⟨0, 7, 13, 13⟩], rfl, rfl, by decide, by decide, w_cl_LW_31, w_cast_IndexOutOfBoundsException, fun y hy => nomatch hy⟩
theorem ct_LW_tryIn_2 : zcatch Y_LW_tryIn 4 "java/lang/IllegalArgumentException" 13 := ⟨[⟨0, 7, 8, 31⟩], ⟨0, 7, 13, 13⟩, [], rfl, rfl, by decide, by decide, w_cl_LW_13, w_cast_IllegalArgumentException, fun y hy => by rcases List.mem_singleton.mp hy with rfl; exact ⟨by decide, "java/lang/IndexOutOfBoundsException", w_cl_LW_31, by decide⟩⟩
def Y_LW_tryWhen : zY := (⟨"SirenFairLaw", "tryWhen", "(LSirenFair;II)I"⟩, method_21_code, 4, some .int, [(0, 6, 7, 31)])
theorem w_c_SF_heardIn : Cond.code Y_SF_heardIn.1 Y_SF_heardIn.2.1 Y_SF_heardIn.2.2.1 Y_SF_heardIn.2.2.2.1 ∈ zWd := zin 854 (by decide +kernel) rfl
theorem lk_SF_heardIn : zlk Y_SF_heardIn 2 := ⟨w_c_SF_heardIn, w_ini_SF, by decide +kernel, by decide +kernel, by decide⟩
theorem w_ml_LW_85 : Cond.methodLink "SirenFairLaw" 85 Y_SF_heardIn.1 ∈ zWd := zin 851 (by decide +kernel) rfl
theorem w_im_SF_heardIn : Cond.instanceMethod Y_SF_heardIn.1 ∈ zWd := zin 852 (by decide +kernel) rfl
theorem w_sel_SF_heardIn : Cond.selects "SirenFair" Y_SF_heardIn.1 Y_SF_heardIn.1 ∈ zWd := zin 853 (by decide +kernel) rfl
theorem lkV_LW_85 : zlkV "SirenFairLaw" 85 Y_SF_heardIn 2 := ⟨lk_SF_heardIn, w_ml_LW_85, w_im_SF_heardIn, w_sel_SF_heardIn⟩
theorem ct_LW_tryWhen_1 : zcatch Y_LW_tryWhen 3 "java/lang/IndexOutOfBoundsException" 7 := ⟨[], ⟨0, 6, 7, 31⟩, [], rfl, rfl, by decide, by decide, w_cl_LW_31, w_cast_IndexOutOfBoundsException, fun y hy => nomatch hy⟩
def Y_LW_tryLeast : zY := (⟨"SirenFairLaw", "tryLeast", "(LSirenFair;I)I"⟩, method_22_code, 3, some .int, [(0, 5, 6, 13)])
theorem w_c_SF_leastSpeed : Cond.code Y_SF_leastSpeed.1 Y_SF_leastSpeed.2.1 Y_SF_leastSpeed.2.2.1 Y_SF_leastSpeed.2.2.2.1 ∈ zWd := zin 862 (by decide +kernel) rfl
theorem lk_SF_leastSpeed : zlk Y_SF_leastSpeed 1 := ⟨w_c_SF_leastSpeed, w_ini_SF, by decide +kernel, by decide +kernel, by decide⟩
theorem w_ml_LW_88 : Cond.methodLink "SirenFairLaw" 88 Y_SF_leastSpeed.1 ∈ zWd := zin 859 (by decide +kernel) rfl
theorem w_im_SF_leastSpeed : Cond.instanceMethod Y_SF_leastSpeed.1 ∈ zWd := zin 860 (by decide +kernel) rfl
theorem w_sel_SF_leastSpeed : Cond.selects "SirenFair" Y_SF_leastSpeed.1 Y_SF_leastSpeed.1 ∈ zWd := zin 861 (by decide +kernel) rfl
theorem lkV_LW_88 : zlkV "SirenFairLaw" 88 Y_SF_leastSpeed 1 := ⟨lk_SF_leastSpeed, w_ml_LW_88, w_im_SF_leastSpeed, w_sel_SF_leastSpeed⟩
theorem ct_LW_tryLeast_1 : zcatch Y_LW_tryLeast 2 "java/lang/IllegalArgumentException" 6 := ⟨[], ⟨0, 5, 6, 13⟩, [], rfl, rfl, by decide, by decide, w_cl_LW_13, w_cast_IllegalArgumentException, fun y hy => nomatch hy⟩
def Y_LW_tryKeep : zY := (⟨"SirenFairLaw", "tryKeep", "(LSirenFair;I)I"⟩, method_23_code, 3, some .int, [(0, 5, 6, 31)])
theorem w_c_SF_save : Cond.code Y_SF_save.1 Y_SF_save.2.1 Y_SF_save.2.2.1 Y_SF_save.2.2.2.1 ∈ zWd := zin 873 (by decide +kernel) rfl
theorem lk_SF_save : zlk Y_SF_save 1 := ⟨w_c_SF_save, w_ini_SF, by decide +kernel, by decide +kernel, by decide⟩
theorem w_ml_LW_91 : Cond.methodLink "SirenFairLaw" 91 Y_SF_save.1 ∈ zWd := zin 870 (by decide +kernel) rfl
theorem w_im_SF_save : Cond.instanceMethod Y_SF_save.1 ∈ zWd := zin 871 (by decide +kernel) rfl
theorem w_sel_SF_save : Cond.selects "SirenFair" Y_SF_save.1 Y_SF_save.1 ∈ zWd := zin 872 (by decide +kernel) rfl
theorem lkV_LW_91 : zlkV "SirenFairLaw" 91 Y_SF_save 1 := ⟨lk_SF_save, w_ml_LW_91, w_im_SF_save, w_sel_SF_save⟩
theorem ct_LW_tryKeep_1 : zcatch Y_LW_tryKeep 2 "java/lang/IndexOutOfBoundsException" 6 := ⟨[], ⟨0, 5, 6, 31⟩, [], rfl, rfl, by decide, by decide, w_cl_LW_31, w_cast_IndexOutOfBoundsException, fun y hy => nomatch hy⟩
def Y_LW_tryBack : zY := (⟨"SirenFairLaw", "tryBack", "(LSirenFair;I)I"⟩, method_24_code, 3, some .int, [(0, 5, 6, 31), (0, 5, 10, 16)])
theorem w_c_SF_restore : Cond.code Y_SF_restore.1 Y_SF_restore.2.1 Y_SF_restore.2.2.1 Y_SF_restore.2.2.2.1 ∈ zWd := zin 881 (by decide +kernel) rfl
theorem lk_SF_restore : zlk Y_SF_restore 1 := ⟨w_c_SF_restore, w_ini_SF, by decide +kernel, by decide +kernel, by decide⟩
theorem w_ml_LW_94 : Cond.methodLink "SirenFairLaw" 94 Y_SF_restore.1 ∈ zWd := zin 878 (by decide +kernel) rfl
theorem w_im_SF_restore : Cond.instanceMethod Y_SF_restore.1 ∈ zWd := zin 879 (by decide +kernel) rfl
theorem w_sel_SF_restore : Cond.selects "SirenFair" Y_SF_restore.1 Y_SF_restore.1 ∈ zWd := zin 880 (by decide +kernel) rfl
theorem lkV_LW_94 : zlkV "SirenFairLaw" 94 Y_SF_restore 1 := ⟨lk_SF_restore, w_ml_LW_94, w_im_SF_restore, w_sel_SF_restore⟩
theorem ct_LW_tryBack_1 : zcatch Y_LW_tryBack 2 "java/lang/IndexOutOfBoundsException" 6 := ⟨[], ⟨0, 5, 6, 31⟩, [⟨0, 5, 10, 16⟩], rfl, rfl, by decide, by decide, w_cl_LW_31, w_cast_IndexOutOfBoundsException, fun y hy => nomatch hy⟩
theorem ct_LW_tryBack_2 : zcatch Y_LW_tryBack 2 "java/lang/IllegalStateException" 10 := ⟨[⟨0, 5, 6, 31⟩], ⟨0, 5, 10, 16⟩, [], rfl, rfl, by decide, by decide, w_cl_LW_16, w_cast_IllegalStateException, fun y hy => by rcases List.mem_singleton.mp hy with rfl; exact ⟨by decide, "java/lang/IndexOutOfBoundsException", w_cl_LW_31, by decide⟩⟩
theorem d_LW_sirens_0 : decode Y_LW_sirens.2.1 0 = .ok (.aload_n 0, 1) := by decide +kernel
theorem d_LW_sirens_1 : decode Y_LW_sirens.2.1 1 = .ok (.iload_n 1, 1) := by decide +kernel
theorem d_LW_sirens_2 : decode Y_LW_sirens.2.1 2 = .ok (.iload_n 2, 1) := by decide +kernel
theorem d_LW_sirens_3 : decode Y_LW_sirens.2.1 3 = .ok (.iload_n 3, 1) := by decide +kernel
theorem d_LW_sirens_4 : decode Y_LW_sirens.2.1 4 = .ok (.iload 4, 2) := by decide +kernel
theorem d_LW_sirens_6 : decode Y_LW_sirens.2.1 6 = .ok (.iload 5, 2) := by decide +kernel
theorem d_LW_sirens_8 : decode Y_LW_sirens.2.1 8 = .ok (.invokevirtual 7, 3) := by decide +kernel
theorem d_LW_sirens_11 : decode Y_LW_sirens.2.1 11 = .ok (.ireturn, 1) := by decide +kernel
theorem d_LW_sirens_12 : decode Y_LW_sirens.2.1 12 = .ok (.astore 6, 2) := by decide +kernel
theorem d_LW_sirens_14 : decode Y_LW_sirens.2.1 14 = .ok (.ldc 15, 2) := by decide +kernel
theorem d_LW_sirens_16 : decode Y_LW_sirens.2.1 16 = .ok (.ireturn, 1) := by decide +kernel
theorem d_LW_sirens_17 : decode Y_LW_sirens.2.1 17 = .ok (.astore 6, 2) := by decide +kernel
theorem d_LW_sirens_19 : decode Y_LW_sirens.2.1 19 = .ok (.ldc 18, 2) := by decide +kernel
theorem d_LW_sirens_21 : decode Y_LW_sirens.2.1 21 = .ok (.ireturn, 1) := by decide +kernel
def f_LW_sirens (w : zW) (D : zD) (r0 : Nat) (x1 : Int32) (x2 : Int32) (x3 : Int32) (x4 : Int32) (x5 : Int32) : Option (Int32 × zD) := zobj w 0 r0 (zcx (f_SF_siren w D r0 x1 x2 x3 x4 x5) (fun r D1 => Sum.elim (fun v => some (v, D1)) (fun E => zhs2 E "java/lang/IllegalArgumentException" "java/lang/IllegalStateException" (some ((-9999002 : Int32), D1)) (some ((-9999003 : Int32), D1))) r))
set_option maxHeartbeats 4000000 in
theorem c_LW_sirens (z : zT) (D : zD) (r0 : Nat) (x1 : Int32) (x2 : Int32) (x3 : Int32) (x4 : Int32) (x5 : Int32) : zMH Y_LW_sirens 9 1 6 (zqY z.2) (f_LW_sirens z.2 D r0 x1 x2 x3 x4 x5) [.ref r0, .int x1, .int x2, .int x3, .int x4, .int x5] z D := by
  refine zMH_of (by decide +kernel) (Nat.le_of_ble_eq_true rfl) (fun _ _ _ _ h => nomatch h.1) (fun K => ?_)
  unfold f_LW_sirens
  refine z_aload_n (pc := 0) d_LW_sirens_0 rfl 0 rfl ?_
  refine z_iload_n (pc := 1) d_LW_sirens_1 rfl 1 rfl ?_
  refine z_iload_n (pc := 2) d_LW_sirens_2 rfl 2 rfl ?_
  refine z_iload_n (pc := 3) d_LW_sirens_3 rfl 3 rfl ?_
  refine z_iload (pc := 4) d_LW_sirens_4 4 rfl ?_
  refine z_iload (pc := 6) d_LW_sirens_6 5 rfl ?_
  refine z_callX2 (pc := 8) (kc2 := 0) (ks2 := 0) [.int x1, .int x2, .int x3, .int x4, .int x5] lkV_LW_7 rfl (c_SF_siren z D r0 x1 x2 x3 x4 x5) (by decide) (by decide) (by decide) rfl rfl (Nat.le_of_ble_eq_true rfl) d_LW_sirens_8 ct_LW_sirens_1 ct_LW_sirens_2 (fun v D1 z1 e1 t1 => ?_) (fun D1 z1 q1 e1 t1 => ?_) (fun D1 z1 q1 e1 t1 => ?_)
  · rw [← e1]
    exact z_yret (pc := 11) rfl d_LW_sirens_11 rfl
  · rw [← e1]
    refine z_astore (pc := 12) d_LW_sirens_12 (by decide) (lv' := [(6, .ref q1), (0, .ref r0), (1, .int x1), (2, .int x2), (3, .int x3), (4, .int x4), (5, .int x5)]) rfl ?_
    refine z_ldc (pc := 14) w_k_LW_15 d_LW_sirens_14 ?_
    exact z_yret (pc := 16) rfl d_LW_sirens_16 rfl
  · rw [← e1]
    refine z_astore (pc := 17) d_LW_sirens_17 (by decide) (lv' := [(6, .ref q1), (0, .ref r0), (1, .int x1), (2, .int x2), (3, .int x3), (4, .int x4), (5, .int x5)]) rfl ?_
    refine z_ldc (pc := 19) w_k_LW_18 d_LW_sirens_19 ?_
    exact z_yret (pc := 21) rfl d_LW_sirens_21 rfl
theorem d_LW_hearers_0 : decode Y_LW_hearers.2.1 0 = .ok (.aload_n 0, 1) := by decide +kernel
theorem d_LW_hearers_1 : decode Y_LW_hearers.2.1 1 = .ok (.iload_n 1, 1) := by decide +kernel
theorem d_LW_hearers_2 : decode Y_LW_hearers.2.1 2 = .ok (.iload_n 2, 1) := by decide +kernel
theorem d_LW_hearers_3 : decode Y_LW_hearers.2.1 3 = .ok (.iload_n 3, 1) := by decide +kernel
theorem d_LW_hearers_4 : decode Y_LW_hearers.2.1 4 = .ok (.iload 4, 2) := by decide +kernel
theorem d_LW_hearers_6 : decode Y_LW_hearers.2.1 6 = .ok (.invokevirtual 19, 3) := by decide +kernel
theorem d_LW_hearers_9 : decode Y_LW_hearers.2.1 9 = .ok (.ireturn, 1) := by decide +kernel
theorem d_LW_hearers_10 : decode Y_LW_hearers.2.1 10 = .ok (.astore 5, 2) := by decide +kernel
theorem d_LW_hearers_12 : decode Y_LW_hearers.2.1 12 = .ok (.ldc 15, 2) := by decide +kernel
theorem d_LW_hearers_14 : decode Y_LW_hearers.2.1 14 = .ok (.ireturn, 1) := by decide +kernel
theorem d_LW_hearers_15 : decode Y_LW_hearers.2.1 15 = .ok (.astore 5, 2) := by decide +kernel
theorem d_LW_hearers_17 : decode Y_LW_hearers.2.1 17 = .ok (.ldc 18, 2) := by decide +kernel
theorem d_LW_hearers_19 : decode Y_LW_hearers.2.1 19 = .ok (.ireturn, 1) := by decide +kernel
def f_LW_hearers (w : zW) (D : zD) (r0 : Nat) (x1 : Int32) (x2 : Int32) (x3 : Int32) (x4 : Int32) : Option (Int32 × zD) := zobj w 0 r0 (zcx (f_SF_hearer w D r0 x1 x2 x3 x4) (fun r D1 => Sum.elim (fun v => some (v, D1)) (fun E => zhs2 E "java/lang/IllegalArgumentException" "java/lang/IllegalStateException" (some ((-9999002 : Int32), D1)) (some ((-9999003 : Int32), D1))) r))
set_option maxHeartbeats 4000000 in
theorem c_LW_hearers (z : zT) (D : zD) (r0 : Nat) (x1 : Int32) (x2 : Int32) (x3 : Int32) (x4 : Int32) : zMH Y_LW_hearers 9 1 6 (zqY z.2) (f_LW_hearers z.2 D r0 x1 x2 x3 x4) [.ref r0, .int x1, .int x2, .int x3, .int x4] z D := by
  refine zMH_of (by decide +kernel) (Nat.le_of_ble_eq_true rfl) (fun _ _ _ _ h => nomatch h.1) (fun K => ?_)
  unfold f_LW_hearers
  refine z_aload_n (pc := 0) d_LW_hearers_0 rfl 0 rfl ?_
  refine z_iload_n (pc := 1) d_LW_hearers_1 rfl 1 rfl ?_
  refine z_iload_n (pc := 2) d_LW_hearers_2 rfl 2 rfl ?_
  refine z_iload_n (pc := 3) d_LW_hearers_3 rfl 3 rfl ?_
  refine z_iload (pc := 4) d_LW_hearers_4 4 rfl ?_
  refine z_callX2 (pc := 6) (kc2 := 0) (ks2 := 0) [.int x1, .int x2, .int x3, .int x4] lkV_LW_19 rfl (c_SF_hearer z D r0 x1 x2 x3 x4) (by decide) (by decide) (by decide) rfl rfl (Nat.le_of_ble_eq_true rfl) d_LW_hearers_6 ct_LW_hearers_1 ct_LW_hearers_2 (fun v D1 z1 e1 t1 => ?_) (fun D1 z1 q1 e1 t1 => ?_) (fun D1 z1 q1 e1 t1 => ?_)
  · rw [← e1]
    exact z_yret (pc := 9) rfl d_LW_hearers_9 rfl
  · rw [← e1]
    refine z_astore (pc := 10) d_LW_hearers_10 (by decide) (lv' := [(5, .ref q1), (0, .ref r0), (1, .int x1), (2, .int x2), (3, .int x3), (4, .int x4)]) rfl ?_
    refine z_ldc (pc := 12) w_k_LW_15 d_LW_hearers_12 ?_
    exact z_yret (pc := 14) rfl d_LW_hearers_14 rfl
  · rw [← e1]
    refine z_astore (pc := 15) d_LW_hearers_15 (by decide) (lv' := [(5, .ref q1), (0, .ref r0), (1, .int x1), (2, .int x2), (3, .int x3), (4, .int x4)]) rfl ?_
    refine z_ldc (pc := 17) w_k_LW_18 d_LW_hearers_17 ?_
    exact z_yret (pc := 19) rfl d_LW_hearers_19 rfl
theorem d_LW_walls_0 : decode Y_LW_walls.2.1 0 = .ok (.aload_n 0, 1) := by decide +kernel
theorem d_LW_walls_1 : decode Y_LW_walls.2.1 1 = .ok (.iload_n 1, 1) := by decide +kernel
theorem d_LW_walls_2 : decode Y_LW_walls.2.1 2 = .ok (.iload_n 2, 1) := by decide +kernel
theorem d_LW_walls_3 : decode Y_LW_walls.2.1 3 = .ok (.invokevirtual 23, 3) := by decide +kernel
theorem d_LW_walls_6 : decode Y_LW_walls.2.1 6 = .ok (.ireturn, 1) := by decide +kernel
theorem d_LW_walls_7 : decode Y_LW_walls.2.1 7 = .ok (.astore_n 3, 1) := by decide +kernel
theorem d_LW_walls_8 : decode Y_LW_walls.2.1 8 = .ok (.ldc 15, 2) := by decide +kernel
theorem d_LW_walls_10 : decode Y_LW_walls.2.1 10 = .ok (.ireturn, 1) := by decide +kernel
theorem d_LW_walls_11 : decode Y_LW_walls.2.1 11 = .ok (.astore_n 3, 1) := by decide +kernel
theorem d_LW_walls_12 : decode Y_LW_walls.2.1 12 = .ok (.ldc 18, 2) := by decide +kernel
theorem d_LW_walls_14 : decode Y_LW_walls.2.1 14 = .ok (.ireturn, 1) := by decide +kernel
def f_LW_walls (w : zW) (D : zD) (r0 : Nat) (x1 : Int32) (x2 : Int32) : Option (Int32 × zD) := zobj w 0 r0 (zcx (f_SF_wall w D r0 x1 x2) (fun r D1 => Sum.elim (fun v => some (v, D1)) (fun E => zhs2 E "java/lang/IllegalArgumentException" "java/lang/IllegalStateException" (some ((-9999002 : Int32), D1)) (some ((-9999003 : Int32), D1))) r))
set_option maxHeartbeats 4000000 in
theorem c_LW_walls (z : zT) (D : zD) (r0 : Nat) (x1 : Int32) (x2 : Int32) : zMH Y_LW_walls 9 1 6 (zqY z.2) (f_LW_walls z.2 D r0 x1 x2) [.ref r0, .int x1, .int x2] z D := by
  refine zMH_of (by decide +kernel) (Nat.le_of_ble_eq_true rfl) (fun _ _ _ _ h => nomatch h.1) (fun K => ?_)
  unfold f_LW_walls
  refine z_aload_n (pc := 0) d_LW_walls_0 rfl 0 rfl ?_
  refine z_iload_n (pc := 1) d_LW_walls_1 rfl 1 rfl ?_
  refine z_iload_n (pc := 2) d_LW_walls_2 rfl 2 rfl ?_
  refine z_callX2 (pc := 3) (kc2 := 0) (ks2 := 0) [.int x1, .int x2] lkV_LW_23 rfl (c_SF_wall z D r0 x1 x2) (by decide) (by decide) (by decide) rfl rfl (Nat.le_of_ble_eq_true rfl) d_LW_walls_3 ct_LW_walls_1 ct_LW_walls_2 (fun v D1 z1 e1 t1 => ?_) (fun D1 z1 q1 e1 t1 => ?_) (fun D1 z1 q1 e1 t1 => ?_)
  · rw [← e1]
    exact z_yret (pc := 6) rfl d_LW_walls_6 rfl
  · rw [← e1]
    refine z_astore_n (pc := 7) d_LW_walls_7 rfl (by decide) (lv' := [(3, .ref q1), (0, .ref r0), (1, .int x1), (2, .int x2)]) rfl ?_
    refine z_ldc (pc := 8) w_k_LW_15 d_LW_walls_8 ?_
    exact z_yret (pc := 10) rfl d_LW_walls_10 rfl
  · rw [← e1]
    refine z_astore_n (pc := 11) d_LW_walls_11 rfl (by decide) (lv' := [(3, .ref q1), (0, .ref r0), (1, .int x1), (2, .int x2)]) rfl ?_
    refine z_ldc (pc := 12) w_k_LW_18 d_LW_walls_12 ?_
    exact z_yret (pc := 14) rfl d_LW_walls_14 rfl
theorem d_LW_turned_0 : decode Y_LW_turned.2.1 0 = .ok (.aload_n 0, 1) := by decide +kernel
theorem d_LW_turned_1 : decode Y_LW_turned.2.1 1 = .ok (.iload_n 1, 1) := by decide +kernel
theorem d_LW_turned_2 : decode Y_LW_turned.2.1 2 = .ok (.iload_n 2, 1) := by decide +kernel
theorem d_LW_turned_3 : decode Y_LW_turned.2.1 3 = .ok (.invokevirtual 27, 3) := by decide +kernel
theorem d_LW_turned_6 : decode Y_LW_turned.2.1 6 = .ok (.ireturn, 1) := by decide +kernel
theorem d_LW_turned_7 : decode Y_LW_turned.2.1 7 = .ok (.astore_n 3, 1) := by decide +kernel
theorem d_LW_turned_8 : decode Y_LW_turned.2.1 8 = .ok (.ldc 33, 2) := by decide +kernel
theorem d_LW_turned_10 : decode Y_LW_turned.2.1 10 = .ok (.ireturn, 1) := by decide +kernel
def f_LW_turned (w : zW) (D : zD) (r0 : Nat) (x1 : Int32) (x2 : Int32) : Option (Int32 × zD) := zobj w 0 r0 (zcx (f_SF_turn w D r0 x1 x2) (fun r D1 => Sum.elim (fun v => some (v, D1)) (fun E => zhs1 E "java/lang/IndexOutOfBoundsException" (some ((-9999001 : Int32), D1))) r))
set_option maxHeartbeats 4000000 in
theorem c_LW_turned (z : zT) (D : zD) (r0 : Nat) (x1 : Int32) (x2 : Int32) : zMH Y_LW_turned 9 1 6 (zqY z.2) (f_LW_turned z.2 D r0 x1 x2) [.ref r0, .int x1, .int x2] z D := by
  refine zMH_of (by decide +kernel) (Nat.le_of_ble_eq_true rfl) (fun _ _ _ _ h => nomatch h.1) (fun K => ?_)
  unfold f_LW_turned
  refine z_aload_n (pc := 0) d_LW_turned_0 rfl 0 rfl ?_
  refine z_iload_n (pc := 1) d_LW_turned_1 rfl 1 rfl ?_
  refine z_iload_n (pc := 2) d_LW_turned_2 rfl 2 rfl ?_
  refine z_callX1 (pc := 3) (kc2 := 0) (ks2 := 0) [.int x1, .int x2] lkV_LW_27 rfl (c_SF_turn z D r0 x1 x2) (by decide) (by decide) (by decide) rfl rfl (Nat.le_of_ble_eq_true rfl) d_LW_turned_3 ct_LW_turned_1 (fun v D1 z1 e1 t1 => ?_) (fun D1 z1 q1 e1 t1 => ?_)
  · rw [← e1]
    exact z_yret (pc := 6) rfl d_LW_turned_6 rfl
  · rw [← e1]
    refine z_astore_n (pc := 7) d_LW_turned_7 rfl (by decide) (lv' := [(3, .ref q1), (0, .ref r0), (1, .int x1), (2, .int x2)]) rfl ?_
    refine z_ldc (pc := 8) w_k_LW_33 d_LW_turned_8 ?_
    exact z_yret (pc := 10) rfl d_LW_turned_10 rfl
theorem d_LW_doScript_0 : decode Y_LW_doScript.2.1 0 = .ok (.aload_n 0, 1) := by decide +kernel
theorem d_LW_doScript_1 : decode Y_LW_doScript.2.1 1 = .ok (.iload_n 1, 1) := by decide +kernel
theorem d_LW_doScript_2 : decode Y_LW_doScript.2.1 2 = .ok (.lload_n 2, 1) := by decide +kernel
theorem d_LW_doScript_3 : decode Y_LW_doScript.2.1 3 = .ok (.invokevirtual 34, 3) := by decide +kernel
theorem d_LW_doScript_6 : decode Y_LW_doScript.2.1 6 = .ok (.ireturn, 1) := by decide +kernel
theorem d_LW_doScript_7 : decode Y_LW_doScript.2.1 7 = .ok (.astore 4, 2) := by decide +kernel
theorem d_LW_doScript_9 : decode Y_LW_doScript.2.1 9 = .ok (.ldc 15, 2) := by decide +kernel
theorem d_LW_doScript_11 : decode Y_LW_doScript.2.1 11 = .ok (.ireturn, 1) := by decide +kernel
def f_LW_doScript (w : zW) (D : zD) (r0 : Nat) (x1 : Int32) (l2 : Int64) : Option (Int32 × zD) := zobj w 0 r0 (zcx (f_SF_runScript w D r0 x1 l2) (fun r D1 => Sum.elim (fun v => some (v, D1)) (fun E => zhs1 E "java/lang/IllegalArgumentException" (some ((-9999002 : Int32), D1))) r))
set_option maxHeartbeats 4000000 in
theorem c_LW_doScript (z : zT) (D : zD) (r0 : Nat) (x1 : Int32) (l2 : Int64) : zMH Y_LW_doScript 9 1 6 (zqY z.2) (f_LW_doScript z.2 D r0 x1 l2) [.ref r0, .int x1, .long l2] z D := by
  refine zMH_of (by decide +kernel) (Nat.le_of_ble_eq_true rfl) (fun _ _ _ _ h => nomatch h.1) (fun K => ?_)
  unfold f_LW_doScript
  refine z_aload_n (pc := 0) d_LW_doScript_0 rfl 0 rfl ?_
  refine z_iload_n (pc := 1) d_LW_doScript_1 rfl 1 rfl ?_
  refine z_lload_n (pc := 2) d_LW_doScript_2 rfl 2 rfl ?_
  refine z_callX1 (pc := 3) (kc2 := 0) (ks2 := 0) [.int x1, .long l2] lkV_LW_34 rfl (c_SF_runScript z D r0 x1 l2) (by decide) (by decide) (by decide) rfl rfl (Nat.le_of_ble_eq_true rfl) d_LW_doScript_3 ct_LW_doScript_1 (fun v D1 z1 e1 t1 => ?_) (fun D1 z1 q1 e1 t1 => ?_)
  · rw [← e1]
    exact z_yret (pc := 6) rfl d_LW_doScript_6 rfl
  · rw [← e1]
    refine z_astore (pc := 7) d_LW_doScript_7 (by decide) (lv' := [(4, .ref q1), (0, .ref r0), (1, .int x1), (2, .long l2)]) rfl ?_
    refine z_ldc (pc := 9) w_k_LW_15 d_LW_doScript_9 ?_
    exact z_yret (pc := 11) rfl d_LW_doScript_11 rfl
theorem d_LW_doSimulate_0 : decode Y_LW_doSimulate.2.1 0 = .ok (.aload_n 0, 1) := by decide +kernel
theorem d_LW_doSimulate_1 : decode Y_LW_doSimulate.2.1 1 = .ok (.lload_n 1, 1) := by decide +kernel
theorem d_LW_doSimulate_2 : decode Y_LW_doSimulate.2.1 2 = .ok (.iload_n 3, 1) := by decide +kernel
theorem d_LW_doSimulate_3 : decode Y_LW_doSimulate.2.1 3 = .ok (.invokevirtual 38, 3) := by decide +kernel
theorem d_LW_doSimulate_6 : decode Y_LW_doSimulate.2.1 6 = .ok (.ireturn, 1) := by decide +kernel
theorem d_LW_doSimulate_7 : decode Y_LW_doSimulate.2.1 7 = .ok (.astore 4, 2) := by decide +kernel
theorem d_LW_doSimulate_9 : decode Y_LW_doSimulate.2.1 9 = .ok (.ldc 15, 2) := by decide +kernel
theorem d_LW_doSimulate_11 : decode Y_LW_doSimulate.2.1 11 = .ok (.ireturn, 1) := by decide +kernel
def f_LW_doSimulate (w : zW) (D : zD) (r0 : Nat) (l1 : Int64) (x3 : Int32) : Option (Int32 × zD) := zobj w 0 r0 (zcx (f_SF_simulate w D r0 l1 x3) (fun r D1 => Sum.elim (fun v => some (v, D1)) (fun E => zhs1 E "java/lang/IllegalArgumentException" (some ((-9999002 : Int32), D1))) r))
set_option maxHeartbeats 4000000 in
theorem c_LW_doSimulate (z : zT) (D : zD) (r0 : Nat) (l1 : Int64) (x3 : Int32) : zMH Y_LW_doSimulate 9 1 6 (zqY z.2) (f_LW_doSimulate z.2 D r0 l1 x3) [.ref r0, .long l1, .int x3] z D := by
  refine zMH_of (by decide +kernel) (Nat.le_of_ble_eq_true rfl) (fun _ _ _ _ h => nomatch h.1) (fun K => ?_)
  unfold f_LW_doSimulate
  refine z_aload_n (pc := 0) d_LW_doSimulate_0 rfl 0 rfl ?_
  refine z_lload_n (pc := 1) d_LW_doSimulate_1 rfl 1 rfl ?_
  refine z_iload_n (pc := 2) d_LW_doSimulate_2 rfl 2 rfl ?_
  refine z_callX1 (pc := 3) (kc2 := 0) (ks2 := 0) [.long l1, .int x3] lkV_LW_38 rfl (c_SF_simulate z D r0 l1 x3) (by decide) (by decide) (by decide) rfl rfl (Nat.le_of_ble_eq_true rfl) d_LW_doSimulate_3 ct_LW_doSimulate_1 (fun v D1 z1 e1 t1 => ?_) (fun D1 z1 q1 e1 t1 => ?_)
  · rw [← e1]
    exact z_yret (pc := 6) rfl d_LW_doSimulate_6 rfl
  · rw [← e1]
    refine z_astore (pc := 7) d_LW_doSimulate_7 (by decide) (lv' := [(4, .ref q1), (0, .ref r0), (1, .long l1), (3, .int x3)]) rfl ?_
    refine z_ldc (pc := 9) w_k_LW_15 d_LW_doSimulate_9 ?_
    exact z_yret (pc := 11) rfl d_LW_doSimulate_11 rfl
theorem d_LW_tryAppend_0 : decode Y_LW_tryAppend.2.1 0 = .ok (.aload_n 0, 1) := by decide +kernel
theorem d_LW_tryAppend_1 : decode Y_LW_tryAppend.2.1 1 = .ok (.iload_n 1, 1) := by decide +kernel
theorem d_LW_tryAppend_2 : decode Y_LW_tryAppend.2.1 2 = .ok (.invokevirtual 42, 3) := by decide +kernel
theorem d_LW_tryAppend_5 : decode Y_LW_tryAppend.2.1 5 = .ok (.ireturn, 1) := by decide +kernel
theorem d_LW_tryAppend_6 : decode Y_LW_tryAppend.2.1 6 = .ok (.astore_n 2, 1) := by decide +kernel
theorem d_LW_tryAppend_7 : decode Y_LW_tryAppend.2.1 7 = .ok (.ldc 15, 2) := by decide +kernel
theorem d_LW_tryAppend_9 : decode Y_LW_tryAppend.2.1 9 = .ok (.ireturn, 1) := by decide +kernel
theorem d_LW_tryAppend_10 : decode Y_LW_tryAppend.2.1 10 = .ok (.astore_n 2, 1) := by decide +kernel
theorem d_LW_tryAppend_11 : decode Y_LW_tryAppend.2.1 11 = .ok (.ldc 18, 2) := by decide +kernel
theorem d_LW_tryAppend_13 : decode Y_LW_tryAppend.2.1 13 = .ok (.ireturn, 1) := by decide +kernel
def f_LW_tryAppend (w : zW) (D : zD) (r0 : Nat) (x1 : Int32) : Option (Int32 × zD) := zobj w 0 r0 (zcx (f_SF_append w D r0 x1) (fun r D1 => Sum.elim (fun v => some (v, D1)) (fun E => zhs2 E "java/lang/IllegalArgumentException" "java/lang/IllegalStateException" (some ((-9999002 : Int32), D1)) (some ((-9999003 : Int32), D1))) r))
set_option maxHeartbeats 4000000 in
theorem c_LW_tryAppend (z : zT) (D : zD) (r0 : Nat) (x1 : Int32) : zMH Y_LW_tryAppend 9 1 6 (zqY z.2) (f_LW_tryAppend z.2 D r0 x1) [.ref r0, .int x1] z D := by
  refine zMH_of (by decide +kernel) (Nat.le_of_ble_eq_true rfl) (fun _ _ _ _ h => nomatch h.1) (fun K => ?_)
  unfold f_LW_tryAppend
  refine z_aload_n (pc := 0) d_LW_tryAppend_0 rfl 0 rfl ?_
  refine z_iload_n (pc := 1) d_LW_tryAppend_1 rfl 1 rfl ?_
  refine z_callX2 (pc := 2) (kc2 := 0) (ks2 := 0) [.int x1] lkV_LW_42 rfl (c_SF_append z D r0 x1) (by decide) (by decide) (by decide) rfl rfl (Nat.le_of_ble_eq_true rfl) d_LW_tryAppend_2 ct_LW_tryAppend_1 ct_LW_tryAppend_2 (fun v D1 z1 e1 t1 => ?_) (fun D1 z1 q1 e1 t1 => ?_) (fun D1 z1 q1 e1 t1 => ?_)
  · rw [← e1]
    exact z_yret (pc := 5) rfl d_LW_tryAppend_5 rfl
  · rw [← e1]
    refine z_astore_n (pc := 6) d_LW_tryAppend_6 rfl (by decide) (lv' := [(2, .ref q1), (0, .ref r0), (1, .int x1)]) rfl ?_
    refine z_ldc (pc := 7) w_k_LW_15 d_LW_tryAppend_7 ?_
    exact z_yret (pc := 9) rfl d_LW_tryAppend_9 rfl
  · rw [← e1]
    refine z_astore_n (pc := 10) d_LW_tryAppend_10 rfl (by decide) (lv' := [(2, .ref q1), (0, .ref r0), (1, .int x1)]) rfl ?_
    refine z_ldc (pc := 11) w_k_LW_18 d_LW_tryAppend_11 ?_
    exact z_yret (pc := 13) rfl d_LW_tryAppend_13 rfl
theorem d_LW_tryLoad_0 : decode Y_LW_tryLoad.2.1 0 = .ok (.aload_n 0, 1) := by decide +kernel
theorem d_LW_tryLoad_1 : decode Y_LW_tryLoad.2.1 1 = .ok (.invokevirtual 46, 3) := by decide +kernel
theorem d_LW_tryLoad_4 : decode Y_LW_tryLoad.2.1 4 = .ok (.ireturn, 1) := by decide +kernel
theorem d_LW_tryLoad_5 : decode Y_LW_tryLoad.2.1 5 = .ok (.astore_n 1, 1) := by decide +kernel
theorem d_LW_tryLoad_6 : decode Y_LW_tryLoad.2.1 6 = .ok (.ldc 18, 2) := by decide +kernel
theorem d_LW_tryLoad_8 : decode Y_LW_tryLoad.2.1 8 = .ok (.ireturn, 1) := by decide +kernel
def f_LW_tryLoad (w : zW) (D : zD) (r0 : Nat) : Option (Int32 × zD) := zobj w 0 r0 (zcx (f_SF_load w D r0 ) (fun r D1 => Sum.elim (fun v => some (v, D1)) (fun E => zhs1 E "java/lang/IllegalStateException" (some ((-9999003 : Int32), D1))) r))
set_option maxHeartbeats 4000000 in
theorem c_LW_tryLoad (z : zT) (D : zD) (r0 : Nat) : zMH Y_LW_tryLoad 9 1 6 (zqY z.2) (f_LW_tryLoad z.2 D r0) [.ref r0] z D := by
  refine zMH_of (by decide +kernel) (Nat.le_of_ble_eq_true rfl) (fun _ _ _ _ h => nomatch h.1) (fun K => ?_)
  unfold f_LW_tryLoad
  refine z_aload_n (pc := 0) d_LW_tryLoad_0 rfl 0 rfl ?_
  refine z_callX1 (pc := 1) (kc2 := 0) (ks2 := 0) [] lkV_LW_46 rfl (c_SF_load z D r0 ) (by decide) (by decide) (by decide) rfl rfl (Nat.le_of_ble_eq_true rfl) d_LW_tryLoad_1 ct_LW_tryLoad_1 (fun v D1 z1 e1 t1 => ?_) (fun D1 z1 q1 e1 t1 => ?_)
  · rw [← e1]
    exact z_yret (pc := 4) rfl d_LW_tryLoad_4 rfl
  · rw [← e1]
    refine z_astore_n (pc := 5) d_LW_tryLoad_5 rfl (by decide) (lv' := [(1, .ref q1), (0, .ref r0)]) rfl ?_
    refine z_ldc (pc := 6) w_k_LW_18 d_LW_tryLoad_6 ?_
    exact z_yret (pc := 8) rfl d_LW_tryLoad_8 rfl
theorem d_LW_tryAbout_0 : decode Y_LW_tryAbout.2.1 0 = .ok (.aload_n 0, 1) := by decide +kernel
theorem d_LW_tryAbout_1 : decode Y_LW_tryAbout.2.1 1 = .ok (.iload_n 1, 1) := by decide +kernel
theorem d_LW_tryAbout_2 : decode Y_LW_tryAbout.2.1 2 = .ok (.invokevirtual 50, 3) := by decide +kernel
theorem d_LW_tryAbout_5 : decode Y_LW_tryAbout.2.1 5 = .ok (.ireturn, 1) := by decide +kernel
theorem d_LW_tryAbout_6 : decode Y_LW_tryAbout.2.1 6 = .ok (.astore_n 2, 1) := by decide +kernel
theorem d_LW_tryAbout_7 : decode Y_LW_tryAbout.2.1 7 = .ok (.ldc 15, 2) := by decide +kernel
theorem d_LW_tryAbout_9 : decode Y_LW_tryAbout.2.1 9 = .ok (.ireturn, 1) := by decide +kernel
def f_LW_tryAbout (w : zW) (D : zD) (r0 : Nat) (x1 : Int32) : Option (Int32 × zD) := zobj w 0 r0 (zcx (f_SF_about w D r0 x1) (fun r D1 => Sum.elim (fun v => some (v, D1)) (fun E => zhs1 E "java/lang/IllegalArgumentException" (some ((-9999002 : Int32), D1))) r))
set_option maxHeartbeats 4000000 in
theorem c_LW_tryAbout (z : zT) (D : zD) (r0 : Nat) (x1 : Int32) : zMH Y_LW_tryAbout 9 1 6 (zqY z.2) (f_LW_tryAbout z.2 D r0 x1) [.ref r0, .int x1] z D := by
  refine zMH_of (by decide +kernel) (Nat.le_of_ble_eq_true rfl) (fun _ _ _ _ h => nomatch h.1) (fun K => ?_)
  unfold f_LW_tryAbout
  refine z_aload_n (pc := 0) d_LW_tryAbout_0 rfl 0 rfl ?_
  refine z_iload_n (pc := 1) d_LW_tryAbout_1 rfl 1 rfl ?_
  refine z_callX1 (pc := 2) (kc2 := 0) (ks2 := 0) [.int x1] lkV_LW_50 rfl (c_SF_about z D r0 x1) (by decide) (by decide) (by decide) rfl rfl (Nat.le_of_ble_eq_true rfl) d_LW_tryAbout_2 ct_LW_tryAbout_1 (fun v D1 z1 e1 t1 => ?_) (fun D1 z1 q1 e1 t1 => ?_)
  · rw [← e1]
    exact z_yret (pc := 5) rfl d_LW_tryAbout_5 rfl
  · rw [← e1]
    refine z_astore_n (pc := 6) d_LW_tryAbout_6 rfl (by decide) (lv' := [(2, .ref q1), (0, .ref r0), (1, .int x1)]) rfl ?_
    refine z_ldc (pc := 7) w_k_LW_15 d_LW_tryAbout_7 ?_
    exact z_yret (pc := 9) rfl d_LW_tryAbout_9 rfl
theorem d_LW_trySiren_0 : decode Y_LW_trySiren.2.1 0 = .ok (.aload_n 0, 1) := by decide +kernel
theorem d_LW_trySiren_1 : decode Y_LW_trySiren.2.1 1 = .ok (.iload_n 1, 1) := by decide +kernel
theorem d_LW_trySiren_2 : decode Y_LW_trySiren.2.1 2 = .ok (.iload_n 2, 1) := by decide +kernel
theorem d_LW_trySiren_3 : decode Y_LW_trySiren.2.1 3 = .ok (.invokevirtual 53, 3) := by decide +kernel
theorem d_LW_trySiren_6 : decode Y_LW_trySiren.2.1 6 = .ok (.ireturn, 1) := by decide +kernel
theorem d_LW_trySiren_7 : decode Y_LW_trySiren.2.1 7 = .ok (.astore_n 3, 1) := by decide +kernel
theorem d_LW_trySiren_8 : decode Y_LW_trySiren.2.1 8 = .ok (.ldc 33, 2) := by decide +kernel
theorem d_LW_trySiren_10 : decode Y_LW_trySiren.2.1 10 = .ok (.ireturn, 1) := by decide +kernel
theorem d_LW_trySiren_11 : decode Y_LW_trySiren.2.1 11 = .ok (.astore_n 3, 1) := by decide +kernel
theorem d_LW_trySiren_12 : decode Y_LW_trySiren.2.1 12 = .ok (.ldc 15, 2) := by decide +kernel
theorem d_LW_trySiren_14 : decode Y_LW_trySiren.2.1 14 = .ok (.ireturn, 1) := by decide +kernel
def f_LW_trySiren (w : zW) (D : zD) (r0 : Nat) (x1 : Int32) (x2 : Int32) : Option (Int32 × zD) := zobj w 0 r0 (zcx (f_SF_sirenOf w D r0 x1 x2) (fun r D1 => Sum.elim (fun v => some (v, D1)) (fun E => zhs2 E "java/lang/IndexOutOfBoundsException" "java/lang/IllegalArgumentException" (some ((-9999001 : Int32), D1)) (some ((-9999002 : Int32), D1))) r))
set_option maxHeartbeats 4000000 in
theorem c_LW_trySiren (z : zT) (D : zD) (r0 : Nat) (x1 : Int32) (x2 : Int32) : zMH Y_LW_trySiren 9 1 6 (zqY z.2) (f_LW_trySiren z.2 D r0 x1 x2) [.ref r0, .int x1, .int x2] z D := by
  refine zMH_of (by decide +kernel) (Nat.le_of_ble_eq_true rfl) (fun _ _ _ _ h => nomatch h.1) (fun K => ?_)
  unfold f_LW_trySiren
  refine z_aload_n (pc := 0) d_LW_trySiren_0 rfl 0 rfl ?_
  refine z_iload_n (pc := 1) d_LW_trySiren_1 rfl 1 rfl ?_
  refine z_iload_n (pc := 2) d_LW_trySiren_2 rfl 2 rfl ?_
  refine z_callX2 (pc := 3) (kc2 := 0) (ks2 := 0) [.int x1, .int x2] lkV_LW_53 rfl (c_SF_sirenOf z D r0 x1 x2) (by decide) (by decide) (by decide) rfl rfl (Nat.le_of_ble_eq_true rfl) d_LW_trySiren_3 ct_LW_trySiren_1 ct_LW_trySiren_2 (fun v D1 z1 e1 t1 => ?_) (fun D1 z1 q1 e1 t1 => ?_) (fun D1 z1 q1 e1 t1 => ?_)
  · rw [← e1]
    exact z_yret (pc := 6) rfl d_LW_trySiren_6 rfl
  · rw [← e1]
    refine z_astore_n (pc := 7) d_LW_trySiren_7 rfl (by decide) (lv' := [(3, .ref q1), (0, .ref r0), (1, .int x1), (2, .int x2)]) rfl ?_
    refine z_ldc (pc := 8) w_k_LW_33 d_LW_trySiren_8 ?_
    exact z_yret (pc := 10) rfl d_LW_trySiren_10 rfl
  · rw [← e1]
    refine z_astore_n (pc := 11) d_LW_trySiren_11 rfl (by decide) (lv' := [(3, .ref q1), (0, .ref r0), (1, .int x1), (2, .int x2)]) rfl ?_
    refine z_ldc (pc := 12) w_k_LW_15 d_LW_trySiren_12 ?_
    exact z_yret (pc := 14) rfl d_LW_trySiren_14 rfl
theorem d_LW_tryHearer_0 : decode Y_LW_tryHearer.2.1 0 = .ok (.aload_n 0, 1) := by decide +kernel
theorem d_LW_tryHearer_1 : decode Y_LW_tryHearer.2.1 1 = .ok (.iload_n 1, 1) := by decide +kernel
theorem d_LW_tryHearer_2 : decode Y_LW_tryHearer.2.1 2 = .ok (.iload_n 2, 1) := by decide +kernel
theorem d_LW_tryHearer_3 : decode Y_LW_tryHearer.2.1 3 = .ok (.invokevirtual 57, 3) := by decide +kernel
theorem d_LW_tryHearer_6 : decode Y_LW_tryHearer.2.1 6 = .ok (.ireturn, 1) := by decide +kernel
theorem d_LW_tryHearer_7 : decode Y_LW_tryHearer.2.1 7 = .ok (.astore_n 3, 1) := by decide +kernel
theorem d_LW_tryHearer_8 : decode Y_LW_tryHearer.2.1 8 = .ok (.ldc 33, 2) := by decide +kernel
theorem d_LW_tryHearer_10 : decode Y_LW_tryHearer.2.1 10 = .ok (.ireturn, 1) := by decide +kernel
theorem d_LW_tryHearer_11 : decode Y_LW_tryHearer.2.1 11 = .ok (.astore_n 3, 1) := by decide +kernel
theorem d_LW_tryHearer_12 : decode Y_LW_tryHearer.2.1 12 = .ok (.ldc 15, 2) := by decide +kernel
theorem d_LW_tryHearer_14 : decode Y_LW_tryHearer.2.1 14 = .ok (.ireturn, 1) := by decide +kernel
def f_LW_tryHearer (w : zW) (D : zD) (r0 : Nat) (x1 : Int32) (x2 : Int32) : Option (Int32 × zD) := zobj w 0 r0 (zcx (f_SF_hearerOf w D r0 x1 x2) (fun r D1 => Sum.elim (fun v => some (v, D1)) (fun E => zhs2 E "java/lang/IndexOutOfBoundsException" "java/lang/IllegalArgumentException" (some ((-9999001 : Int32), D1)) (some ((-9999002 : Int32), D1))) r))
set_option maxHeartbeats 4000000 in
theorem c_LW_tryHearer (z : zT) (D : zD) (r0 : Nat) (x1 : Int32) (x2 : Int32) : zMH Y_LW_tryHearer 9 1 6 (zqY z.2) (f_LW_tryHearer z.2 D r0 x1 x2) [.ref r0, .int x1, .int x2] z D := by
  refine zMH_of (by decide +kernel) (Nat.le_of_ble_eq_true rfl) (fun _ _ _ _ h => nomatch h.1) (fun K => ?_)
  unfold f_LW_tryHearer
  refine z_aload_n (pc := 0) d_LW_tryHearer_0 rfl 0 rfl ?_
  refine z_iload_n (pc := 1) d_LW_tryHearer_1 rfl 1 rfl ?_
  refine z_iload_n (pc := 2) d_LW_tryHearer_2 rfl 2 rfl ?_
  refine z_callX2 (pc := 3) (kc2 := 0) (ks2 := 0) [.int x1, .int x2] lkV_LW_57 rfl (c_SF_hearerOf z D r0 x1 x2) (by decide) (by decide) (by decide) rfl rfl (Nat.le_of_ble_eq_true rfl) d_LW_tryHearer_3 ct_LW_tryHearer_1 ct_LW_tryHearer_2 (fun v D1 z1 e1 t1 => ?_) (fun D1 z1 q1 e1 t1 => ?_) (fun D1 z1 q1 e1 t1 => ?_)
  · rw [← e1]
    exact z_yret (pc := 6) rfl d_LW_tryHearer_6 rfl
  · rw [← e1]
    refine z_astore_n (pc := 7) d_LW_tryHearer_7 rfl (by decide) (lv' := [(3, .ref q1), (0, .ref r0), (1, .int x1), (2, .int x2)]) rfl ?_
    refine z_ldc (pc := 8) w_k_LW_33 d_LW_tryHearer_8 ?_
    exact z_yret (pc := 10) rfl d_LW_tryHearer_10 rfl
  · rw [← e1]
    refine z_astore_n (pc := 11) d_LW_tryHearer_11 rfl (by decide) (lv' := [(3, .ref q1), (0, .ref r0), (1, .int x1), (2, .int x2)]) rfl ?_
    refine z_ldc (pc := 12) w_k_LW_15 d_LW_tryHearer_12 ?_
    exact z_yret (pc := 14) rfl d_LW_tryHearer_14 rfl
theorem d_LW_tryWall_0 : decode Y_LW_tryWall.2.1 0 = .ok (.aload_n 0, 1) := by decide +kernel
theorem d_LW_tryWall_1 : decode Y_LW_tryWall.2.1 1 = .ok (.iload_n 1, 1) := by decide +kernel
theorem d_LW_tryWall_2 : decode Y_LW_tryWall.2.1 2 = .ok (.iload_n 2, 1) := by decide +kernel
theorem d_LW_tryWall_3 : decode Y_LW_tryWall.2.1 3 = .ok (.invokevirtual 60, 3) := by decide +kernel
theorem d_LW_tryWall_6 : decode Y_LW_tryWall.2.1 6 = .ok (.ireturn, 1) := by decide +kernel
theorem d_LW_tryWall_7 : decode Y_LW_tryWall.2.1 7 = .ok (.astore_n 3, 1) := by decide +kernel
theorem d_LW_tryWall_8 : decode Y_LW_tryWall.2.1 8 = .ok (.ldc 33, 2) := by decide +kernel
theorem d_LW_tryWall_10 : decode Y_LW_tryWall.2.1 10 = .ok (.ireturn, 1) := by decide +kernel
theorem d_LW_tryWall_11 : decode Y_LW_tryWall.2.1 11 = .ok (.astore_n 3, 1) := by decide +kernel
theorem d_LW_tryWall_12 : decode Y_LW_tryWall.2.1 12 = .ok (.ldc 15, 2) := by decide +kernel
theorem d_LW_tryWall_14 : decode Y_LW_tryWall.2.1 14 = .ok (.ireturn, 1) := by decide +kernel
def f_LW_tryWall (w : zW) (D : zD) (r0 : Nat) (x1 : Int32) (x2 : Int32) : Option (Int32 × zD) := zobj w 0 r0 (zcx (f_SF_wallOf w D r0 x1 x2) (fun r D1 => Sum.elim (fun v => some (v, D1)) (fun E => zhs2 E "java/lang/IndexOutOfBoundsException" "java/lang/IllegalArgumentException" (some ((-9999001 : Int32), D1)) (some ((-9999002 : Int32), D1))) r))
set_option maxHeartbeats 4000000 in
theorem c_LW_tryWall (z : zT) (D : zD) (r0 : Nat) (x1 : Int32) (x2 : Int32) : zMH Y_LW_tryWall 9 1 6 (zqY z.2) (f_LW_tryWall z.2 D r0 x1 x2) [.ref r0, .int x1, .int x2] z D := by
  refine zMH_of (by decide +kernel) (Nat.le_of_ble_eq_true rfl) (fun _ _ _ _ h => nomatch h.1) (fun K => ?_)
  unfold f_LW_tryWall
  refine z_aload_n (pc := 0) d_LW_tryWall_0 rfl 0 rfl ?_
  refine z_iload_n (pc := 1) d_LW_tryWall_1 rfl 1 rfl ?_
  refine z_iload_n (pc := 2) d_LW_tryWall_2 rfl 2 rfl ?_
  refine z_callX2 (pc := 3) (kc2 := 0) (ks2 := 0) [.int x1, .int x2] lkV_LW_60 rfl (c_SF_wallOf z D r0 x1 x2) (by decide) (by decide) (by decide) rfl rfl (Nat.le_of_ble_eq_true rfl) d_LW_tryWall_3 ct_LW_tryWall_1 ct_LW_tryWall_2 (fun v D1 z1 e1 t1 => ?_) (fun D1 z1 q1 e1 t1 => ?_) (fun D1 z1 q1 e1 t1 => ?_)
  · rw [← e1]
    exact z_yret (pc := 6) rfl d_LW_tryWall_6 rfl
  · rw [← e1]
    refine z_astore_n (pc := 7) d_LW_tryWall_7 rfl (by decide) (lv' := [(3, .ref q1), (0, .ref r0), (1, .int x1), (2, .int x2)]) rfl ?_
    refine z_ldc (pc := 8) w_k_LW_33 d_LW_tryWall_8 ?_
    exact z_yret (pc := 10) rfl d_LW_tryWall_10 rfl
  · rw [← e1]
    refine z_astore_n (pc := 11) d_LW_tryWall_11 rfl (by decide) (lv' := [(3, .ref q1), (0, .ref r0), (1, .int x1), (2, .int x2)]) rfl ?_
    refine z_ldc (pc := 12) w_k_LW_15 d_LW_tryWall_12 ?_
    exact z_yret (pc := 14) rfl d_LW_tryWall_14 rfl
theorem d_LW_tryPulse_0 : decode Y_LW_tryPulse.2.1 0 = .ok (.aload_n 0, 1) := by decide +kernel
theorem d_LW_tryPulse_1 : decode Y_LW_tryPulse.2.1 1 = .ok (.iload_n 1, 1) := by decide +kernel
theorem d_LW_tryPulse_2 : decode Y_LW_tryPulse.2.1 2 = .ok (.iload_n 2, 1) := by decide +kernel
theorem d_LW_tryPulse_3 : decode Y_LW_tryPulse.2.1 3 = .ok (.invokevirtual 63, 3) := by decide +kernel
theorem d_LW_tryPulse_6 : decode Y_LW_tryPulse.2.1 6 = .ok (.ireturn, 1) := by decide +kernel
theorem d_LW_tryPulse_7 : decode Y_LW_tryPulse.2.1 7 = .ok (.astore_n 3, 1) := by decide +kernel
theorem d_LW_tryPulse_8 : decode Y_LW_tryPulse.2.1 8 = .ok (.ldc 33, 2) := by decide +kernel
theorem d_LW_tryPulse_10 : decode Y_LW_tryPulse.2.1 10 = .ok (.ireturn, 1) := by decide +kernel
theorem d_LW_tryPulse_11 : decode Y_LW_tryPulse.2.1 11 = .ok (.astore_n 3, 1) := by decide +kernel
theorem d_LW_tryPulse_12 : decode Y_LW_tryPulse.2.1 12 = .ok (.ldc 15, 2) := by decide +kernel
theorem d_LW_tryPulse_14 : decode Y_LW_tryPulse.2.1 14 = .ok (.ireturn, 1) := by decide +kernel
def f_LW_tryPulse (w : zW) (D : zD) (r0 : Nat) (x1 : Int32) (x2 : Int32) : Option (Int32 × zD) := zobj w 0 r0 (zcx (f_SF_pulse w D r0 x1 x2) (fun r D1 => Sum.elim (fun v => some (v, D1)) (fun E => zhs2 E "java/lang/IndexOutOfBoundsException" "java/lang/IllegalArgumentException" (some ((-9999001 : Int32), D1)) (some ((-9999002 : Int32), D1))) r))
set_option maxHeartbeats 4000000 in
theorem c_LW_tryPulse (z : zT) (D : zD) (r0 : Nat) (x1 : Int32) (x2 : Int32) : zMH Y_LW_tryPulse 9 1 6 (zqY z.2) (f_LW_tryPulse z.2 D r0 x1 x2) [.ref r0, .int x1, .int x2] z D := by
  refine zMH_of (by decide +kernel) (Nat.le_of_ble_eq_true rfl) (fun _ _ _ _ h => nomatch h.1) (fun K => ?_)
  unfold f_LW_tryPulse
  refine z_aload_n (pc := 0) d_LW_tryPulse_0 rfl 0 rfl ?_
  refine z_iload_n (pc := 1) d_LW_tryPulse_1 rfl 1 rfl ?_
  refine z_iload_n (pc := 2) d_LW_tryPulse_2 rfl 2 rfl ?_
  refine z_callX2 (pc := 3) (kc2 := 0) (ks2 := 0) [.int x1, .int x2] lkV_LW_63 rfl (c_SF_pulse z D r0 x1 x2) (by decide) (by decide) (by decide) rfl rfl (Nat.le_of_ble_eq_true rfl) d_LW_tryPulse_3 ct_LW_tryPulse_1 ct_LW_tryPulse_2 (fun v D1 z1 e1 t1 => ?_) (fun D1 z1 q1 e1 t1 => ?_) (fun D1 z1 q1 e1 t1 => ?_)
  · rw [← e1]
    exact z_yret (pc := 6) rfl d_LW_tryPulse_6 rfl
  · rw [← e1]
    refine z_astore_n (pc := 7) d_LW_tryPulse_7 rfl (by decide) (lv' := [(3, .ref q1), (0, .ref r0), (1, .int x1), (2, .int x2)]) rfl ?_
    refine z_ldc (pc := 8) w_k_LW_33 d_LW_tryPulse_8 ?_
    exact z_yret (pc := 10) rfl d_LW_tryPulse_10 rfl
  · rw [← e1]
    refine z_astore_n (pc := 11) d_LW_tryPulse_11 rfl (by decide) (lv' := [(3, .ref q1), (0, .ref r0), (1, .int x1), (2, .int x2)]) rfl ?_
    refine z_ldc (pc := 12) w_k_LW_15 d_LW_tryPulse_12 ?_
    exact z_yret (pc := 14) rfl d_LW_tryPulse_14 rfl
theorem d_LW_tryHeard_0 : decode Y_LW_tryHeard.2.1 0 = .ok (.aload_n 0, 1) := by decide +kernel
theorem d_LW_tryHeard_1 : decode Y_LW_tryHeard.2.1 1 = .ok (.iload_n 1, 1) := by decide +kernel
theorem d_LW_tryHeard_2 : decode Y_LW_tryHeard.2.1 2 = .ok (.iload_n 2, 1) := by decide +kernel
theorem d_LW_tryHeard_3 : decode Y_LW_tryHeard.2.1 3 = .ok (.iload_n 3, 1) := by decide +kernel
theorem d_LW_tryHeard_4 : decode Y_LW_tryHeard.2.1 4 = .ok (.invokevirtual 66, 3) := by decide +kernel
theorem d_LW_tryHeard_7 : decode Y_LW_tryHeard.2.1 7 = .ok (.ireturn, 1) := by decide +kernel
theorem d_LW_tryHeard_8 : decode Y_LW_tryHeard.2.1 8 = .ok (.astore 4, 2) := by decide +kernel
theorem d_LW_tryHeard_10 : decode Y_LW_tryHeard.2.1 10 = .ok (.ldc 33, 2) := by decide +kernel
theorem d_LW_tryHeard_12 : decode Y_LW_tryHeard.2.1 12 = .ok (.ireturn, 1) := by decide +kernel
theorem d_LW_tryHeard_13 : decode Y_LW_tryHeard.2.1 13 = .ok (.astore 4, 2) := by decide +kernel
theorem d_LW_tryHeard_15 : decode Y_LW_tryHeard.2.1 15 = .ok (.ldc 15, 2) := by decide +kernel
theorem d_LW_tryHeard_17 : decode Y_LW_tryHeard.2.1 17 = .ok (.ireturn, 1) := by decide +kernel
def f_LW_tryHeard (w : zW) (D : zD) (r0 : Nat) (x1 : Int32) (x2 : Int32) (x3 : Int32) : Option (Int32 × zD) := zobj w 0 r0 (zcx (f_SF_heard w D r0 x1 x2 x3) (fun r D1 => Sum.elim (fun v => some (v, D1)) (fun E => zhs2 E "java/lang/IndexOutOfBoundsException" "java/lang/IllegalArgumentException" (some ((-9999001 : Int32), D1)) (some ((-9999002 : Int32), D1))) r))
set_option maxHeartbeats 4000000 in
theorem c_LW_tryHeard (z : zT) (D : zD) (r0 : Nat) (x1 : Int32) (x2 : Int32) (x3 : Int32) : zMH Y_LW_tryHeard 9 1 6 (zqY z.2) (f_LW_tryHeard z.2 D r0 x1 x2 x3) [.ref r0, .int x1, .int x2, .int x3] z D := by
  refine zMH_of (by decide +kernel) (Nat.le_of_ble_eq_true rfl) (fun _ _ _ _ h => nomatch h.1) (fun K => ?_)
  unfold f_LW_tryHeard
  refine z_aload_n (pc := 0) d_LW_tryHeard_0 rfl 0 rfl ?_
  refine z_iload_n (pc := 1) d_LW_tryHeard_1 rfl 1 rfl ?_
  refine z_iload_n (pc := 2) d_LW_tryHeard_2 rfl 2 rfl ?_
  refine z_iload_n (pc := 3) d_LW_tryHeard_3 rfl 3 rfl ?_
  refine z_callX2 (pc := 4) (kc2 := 0) (ks2 := 0) [.int x1, .int x2, .int x3] lkV_LW_66 rfl (c_SF_heard z D r0 x1 x2 x3) (by decide) (by decide) (by decide) rfl rfl (Nat.le_of_ble_eq_true rfl) d_LW_tryHeard_4 ct_LW_tryHeard_1 ct_LW_tryHeard_2 (fun v D1 z1 e1 t1 => ?_) (fun D1 z1 q1 e1 t1 => ?_) (fun D1 z1 q1 e1 t1 => ?_)
  · rw [← e1]
    exact z_yret (pc := 7) rfl d_LW_tryHeard_7 rfl
  · rw [← e1]
    refine z_astore (pc := 8) d_LW_tryHeard_8 (by decide) (lv' := [(4, .ref q1), (0, .ref r0), (1, .int x1), (2, .int x2), (3, .int x3)]) rfl ?_
    refine z_ldc (pc := 10) w_k_LW_33 d_LW_tryHeard_10 ?_
    exact z_yret (pc := 12) rfl d_LW_tryHeard_12 rfl
  · rw [← e1]
    refine z_astore (pc := 13) d_LW_tryHeard_13 (by decide) (lv' := [(4, .ref q1), (0, .ref r0), (1, .int x1), (2, .int x2), (3, .int x3)]) rfl ?_
    refine z_ldc (pc := 15) w_k_LW_15 d_LW_tryHeard_15 ?_
    exact z_yret (pc := 17) rfl d_LW_tryHeard_17 rfl
theorem d_LW_tryWalk_0 : decode Y_LW_tryWalk.2.1 0 = .ok (.aload_n 0, 1) := by decide +kernel
theorem d_LW_tryWalk_1 : decode Y_LW_tryWalk.2.1 1 = .ok (.iload_n 1, 1) := by decide +kernel
theorem d_LW_tryWalk_2 : decode Y_LW_tryWalk.2.1 2 = .ok (.iload_n 2, 1) := by decide +kernel
theorem d_LW_tryWalk_3 : decode Y_LW_tryWalk.2.1 3 = .ok (.iload_n 3, 1) := by decide +kernel
theorem d_LW_tryWalk_4 : decode Y_LW_tryWalk.2.1 4 = .ok (.invokevirtual 70, 3) := by decide +kernel
theorem d_LW_tryWalk_7 : decode Y_LW_tryWalk.2.1 7 = .ok (.ireturn, 1) := by decide +kernel
theorem d_LW_tryWalk_8 : decode Y_LW_tryWalk.2.1 8 = .ok (.astore 4, 2) := by decide +kernel
theorem d_LW_tryWalk_10 : decode Y_LW_tryWalk.2.1 10 = .ok (.ldc 33, 2) := by decide +kernel
theorem d_LW_tryWalk_12 : decode Y_LW_tryWalk.2.1 12 = .ok (.ireturn, 1) := by decide +kernel
theorem d_LW_tryWalk_13 : decode Y_LW_tryWalk.2.1 13 = .ok (.astore 4, 2) := by decide +kernel
theorem d_LW_tryWalk_15 : decode Y_LW_tryWalk.2.1 15 = .ok (.ldc 15, 2) := by decide +kernel
theorem d_LW_tryWalk_17 : decode Y_LW_tryWalk.2.1 17 = .ok (.ireturn, 1) := by decide +kernel
def f_LW_tryWalk (w : zW) (D : zD) (r0 : Nat) (x1 : Int32) (x2 : Int32) (x3 : Int32) : Option (Int32 × zD) := zobj w 0 r0 (zcx (f_SF_walk w D r0 x1 x2 x3) (fun r D1 => Sum.elim (fun v => some (v, D1)) (fun E => zhs2 E "java/lang/IndexOutOfBoundsException" "java/lang/IllegalArgumentException" (some ((-9999001 : Int32), D1)) (some ((-9999002 : Int32), D1))) r))
set_option maxHeartbeats 4000000 in
theorem c_LW_tryWalk (z : zT) (D : zD) (r0 : Nat) (x1 : Int32) (x2 : Int32) (x3 : Int32) : zMH Y_LW_tryWalk 9 1 6 (zqY z.2) (f_LW_tryWalk z.2 D r0 x1 x2 x3) [.ref r0, .int x1, .int x2, .int x3] z D := by
  refine zMH_of (by decide +kernel) (Nat.le_of_ble_eq_true rfl) (fun _ _ _ _ h => nomatch h.1) (fun K => ?_)
  unfold f_LW_tryWalk
  refine z_aload_n (pc := 0) d_LW_tryWalk_0 rfl 0 rfl ?_
  refine z_iload_n (pc := 1) d_LW_tryWalk_1 rfl 1 rfl ?_
  refine z_iload_n (pc := 2) d_LW_tryWalk_2 rfl 2 rfl ?_
  refine z_iload_n (pc := 3) d_LW_tryWalk_3 rfl 3 rfl ?_
  refine z_callX2 (pc := 4) (kc2 := 0) (ks2 := 0) [.int x1, .int x2, .int x3] lkV_LW_70 rfl (c_SF_walk z D r0 x1 x2 x3) (by decide) (by decide) (by decide) rfl rfl (Nat.le_of_ble_eq_true rfl) d_LW_tryWalk_4 ct_LW_tryWalk_1 ct_LW_tryWalk_2 (fun v D1 z1 e1 t1 => ?_) (fun D1 z1 q1 e1 t1 => ?_) (fun D1 z1 q1 e1 t1 => ?_)
  · rw [← e1]
    exact z_yret (pc := 7) rfl d_LW_tryWalk_7 rfl
  · rw [← e1]
    refine z_astore (pc := 8) d_LW_tryWalk_8 (by decide) (lv' := [(4, .ref q1), (0, .ref r0), (1, .int x1), (2, .int x2), (3, .int x3)]) rfl ?_
    refine z_ldc (pc := 10) w_k_LW_33 d_LW_tryWalk_10 ?_
    exact z_yret (pc := 12) rfl d_LW_tryWalk_12 rfl
  · rw [← e1]
    refine z_astore (pc := 13) d_LW_tryWalk_13 (by decide) (lv' := [(4, .ref q1), (0, .ref r0), (1, .int x1), (2, .int x2), (3, .int x3)]) rfl ?_
    refine z_ldc (pc := 15) w_k_LW_15 d_LW_tryWalk_15 ?_
    exact z_yret (pc := 17) rfl d_LW_tryWalk_17 rfl
theorem d_LW_tryTicks_0 : decode Y_LW_tryTicks.2.1 0 = .ok (.aload_n 0, 1) := by decide +kernel
theorem d_LW_tryTicks_1 : decode Y_LW_tryTicks.2.1 1 = .ok (.iload_n 1, 1) := by decide +kernel
theorem d_LW_tryTicks_2 : decode Y_LW_tryTicks.2.1 2 = .ok (.invokevirtual 73, 3) := by decide +kernel
theorem d_LW_tryTicks_5 : decode Y_LW_tryTicks.2.1 5 = .ok (.ireturn, 1) := by decide +kernel
theorem d_LW_tryTicks_6 : decode Y_LW_tryTicks.2.1 6 = .ok (.astore_n 2, 1) := by decide +kernel
theorem d_LW_tryTicks_7 : decode Y_LW_tryTicks.2.1 7 = .ok (.ldc 15, 2) := by decide +kernel
theorem d_LW_tryTicks_9 : decode Y_LW_tryTicks.2.1 9 = .ok (.ireturn, 1) := by decide +kernel
def f_LW_tryTicks (w : zW) (D : zD) (r0 : Nat) (x1 : Int32) : Option (Int32 × zD) := zobj w 0 r0 (zcx (f_SF_ticks w D r0 x1) (fun r D1 => Sum.elim (fun v => some (v, D1)) (fun E => zhs1 E "java/lang/IllegalArgumentException" (some ((-9999002 : Int32), D1))) r))
set_option maxHeartbeats 4000000 in
theorem c_LW_tryTicks (z : zT) (D : zD) (r0 : Nat) (x1 : Int32) : zMH Y_LW_tryTicks 9 1 6 (zqY z.2) (f_LW_tryTicks z.2 D r0 x1) [.ref r0, .int x1] z D := by
  refine zMH_of (by decide +kernel) (Nat.le_of_ble_eq_true rfl) (fun _ _ _ _ h => nomatch h.1) (fun K => ?_)
  unfold f_LW_tryTicks
  refine z_aload_n (pc := 0) d_LW_tryTicks_0 rfl 0 rfl ?_
  refine z_iload_n (pc := 1) d_LW_tryTicks_1 rfl 1 rfl ?_
  refine z_callX1 (pc := 2) (kc2 := 0) (ks2 := 0) [.int x1] lkV_LW_73 rfl (c_SF_ticks z D r0 x1) (by decide) (by decide) (by decide) rfl rfl (Nat.le_of_ble_eq_true rfl) d_LW_tryTicks_2 ct_LW_tryTicks_1 (fun v D1 z1 e1 t1 => ?_) (fun D1 z1 q1 e1 t1 => ?_)
  · rw [← e1]
    exact z_yret (pc := 5) rfl d_LW_tryTicks_5 rfl
  · rw [← e1]
    refine z_astore_n (pc := 6) d_LW_tryTicks_6 rfl (by decide) (lv' := [(2, .ref q1), (0, .ref r0), (1, .int x1)]) rfl ?_
    refine z_ldc (pc := 7) w_k_LW_15 d_LW_tryTicks_7 ?_
    exact z_yret (pc := 9) rfl d_LW_tryTicks_9 rfl
theorem d_LW_tryLay_0 : decode Y_LW_tryLay.2.1 0 = .ok (.aload_n 0, 1) := by decide +kernel
theorem d_LW_tryLay_1 : decode Y_LW_tryLay.2.1 1 = .ok (.iload_n 1, 1) := by decide +kernel
theorem d_LW_tryLay_2 : decode Y_LW_tryLay.2.1 2 = .ok (.iload_n 2, 1) := by decide +kernel
theorem d_LW_tryLay_3 : decode Y_LW_tryLay.2.1 3 = .ok (.invokevirtual 76, 3) := by decide +kernel
theorem d_LW_tryLay_6 : decode Y_LW_tryLay.2.1 6 = .ok (.ireturn, 1) := by decide +kernel
theorem d_LW_tryLay_7 : decode Y_LW_tryLay.2.1 7 = .ok (.astore_n 3, 1) := by decide +kernel
theorem d_LW_tryLay_8 : decode Y_LW_tryLay.2.1 8 = .ok (.ldc 15, 2) := by decide +kernel
theorem d_LW_tryLay_10 : decode Y_LW_tryLay.2.1 10 = .ok (.ireturn, 1) := by decide +kernel
def f_LW_tryLay (w : zW) (D : zD) (r0 : Nat) (x1 : Int32) (x2 : Int32) : Option (Int32 × zD) := zobj w 0 r0 (zcx (f_SF_set w D r0 x1 x2) (fun r D1 => Sum.elim (fun v => some (v, D1)) (fun E => zhs1 E "java/lang/IllegalArgumentException" (some ((-9999002 : Int32), D1))) r))
set_option maxHeartbeats 4000000 in
theorem c_LW_tryLay (z : zT) (D : zD) (r0 : Nat) (x1 : Int32) (x2 : Int32) : zMH Y_LW_tryLay 9 1 6 (zqY z.2) (f_LW_tryLay z.2 D r0 x1 x2) [.ref r0, .int x1, .int x2] z D := by
  refine zMH_of (by decide +kernel) (Nat.le_of_ble_eq_true rfl) (fun _ _ _ _ h => nomatch h.1) (fun K => ?_)
  unfold f_LW_tryLay
  refine z_aload_n (pc := 0) d_LW_tryLay_0 rfl 0 rfl ?_
  refine z_iload_n (pc := 1) d_LW_tryLay_1 rfl 1 rfl ?_
  refine z_iload_n (pc := 2) d_LW_tryLay_2 rfl 2 rfl ?_
  refine z_callX1 (pc := 3) (kc2 := 0) (ks2 := 0) [.int x1, .int x2] lkV_LW_76 rfl (c_SF_set z D r0 x1 x2) (by decide) (by decide) (by decide) rfl rfl (Nat.le_of_ble_eq_true rfl) d_LW_tryLay_3 ct_LW_tryLay_1 (fun v D1 z1 e1 t1 => ?_) (fun D1 z1 q1 e1 t1 => ?_)
  · rw [← e1]
    exact z_yret (pc := 6) rfl d_LW_tryLay_6 rfl
  · rw [← e1]
    refine z_astore_n (pc := 7) d_LW_tryLay_7 rfl (by decide) (lv' := [(3, .ref q1), (0, .ref r0), (1, .int x1), (2, .int x2)]) rfl ?_
    refine z_ldc (pc := 8) w_k_LW_15 d_LW_tryLay_8 ?_
    exact z_yret (pc := 10) rfl d_LW_tryLay_10 rfl
theorem d_LW_tryUndo_0 : decode Y_LW_tryUndo.2.1 0 = .ok (.aload_n 0, 1) := by decide +kernel
theorem d_LW_tryUndo_1 : decode Y_LW_tryUndo.2.1 1 = .ok (.invokevirtual 79, 3) := by decide +kernel
theorem d_LW_tryUndo_4 : decode Y_LW_tryUndo.2.1 4 = .ok (.ireturn, 1) := by decide +kernel
theorem d_LW_tryUndo_5 : decode Y_LW_tryUndo.2.1 5 = .ok (.astore_n 1, 1) := by decide +kernel
theorem d_LW_tryUndo_6 : decode Y_LW_tryUndo.2.1 6 = .ok (.ldc 18, 2) := by decide +kernel
theorem d_LW_tryUndo_8 : decode Y_LW_tryUndo.2.1 8 = .ok (.ireturn, 1) := by decide +kernel
def f_LW_tryUndo (w : zW) (D : zD) (r0 : Nat) : Option (Int32 × zD) := zobj w 0 r0 (zcx (f_SF_undo w D r0 ) (fun r D1 => Sum.elim (fun v => some (v, D1)) (fun E => zhs1 E "java/lang/IllegalStateException" (some ((-9999003 : Int32), D1))) r))
set_option maxHeartbeats 4000000 in
theorem c_LW_tryUndo (z : zT) (D : zD) (r0 : Nat) : zMH Y_LW_tryUndo 9 1 6 (zqY z.2) (f_LW_tryUndo z.2 D r0) [.ref r0] z D := by
  refine zMH_of (by decide +kernel) (Nat.le_of_ble_eq_true rfl) (fun _ _ _ _ h => nomatch h.1) (fun K => ?_)
  unfold f_LW_tryUndo
  refine z_aload_n (pc := 0) d_LW_tryUndo_0 rfl 0 rfl ?_
  refine z_callX1 (pc := 1) (kc2 := 0) (ks2 := 0) [] lkV_LW_79 rfl (c_SF_undo z D r0 ) (by decide) (by decide) (by decide) rfl rfl (Nat.le_of_ble_eq_true rfl) d_LW_tryUndo_1 ct_LW_tryUndo_1 (fun v D1 z1 e1 t1 => ?_) (fun D1 z1 q1 e1 t1 => ?_)
  · rw [← e1]
    exact z_yret (pc := 4) rfl d_LW_tryUndo_4 rfl
  · rw [← e1]
    refine z_astore_n (pc := 5) d_LW_tryUndo_5 rfl (by decide) (lv' := [(1, .ref q1), (0, .ref r0)]) rfl ?_
    refine z_ldc (pc := 6) w_k_LW_18 d_LW_tryUndo_6 ?_
    exact z_yret (pc := 8) rfl d_LW_tryUndo_8 rfl
theorem d_LW_tryIn_0 : decode Y_LW_tryIn.2.1 0 = .ok (.aload_n 0, 1) := by decide +kernel
theorem d_LW_tryIn_1 : decode Y_LW_tryIn.2.1 1 = .ok (.iload_n 1, 1) := by decide +kernel
theorem d_LW_tryIn_2 : decode Y_LW_tryIn.2.1 2 = .ok (.iload_n 2, 1) := by decide +kernel
theorem d_LW_tryIn_3 : decode Y_LW_tryIn.2.1 3 = .ok (.iload_n 3, 1) := by decide +kernel
theorem d_LW_tryIn_4 : decode Y_LW_tryIn.2.1 4 = .ok (.invokevirtual 82, 3) := by decide +kernel
theorem d_LW_tryIn_7 : decode Y_LW_tryIn.2.1 7 = .ok (.ireturn, 1) := by decide +kernel
theorem d_LW_tryIn_8 : decode Y_LW_tryIn.2.1 8 = .ok (.astore 4, 2) := by decide +kernel
theorem d_LW_tryIn_10 : decode Y_LW_tryIn.2.1 10 = .ok (.ldc 33, 2) := by decide +kernel
theorem d_LW_tryIn_12 : decode Y_LW_tryIn.2.1 12 = .ok (.ireturn, 1) := by decide +kernel
theorem d_LW_tryIn_13 : decode Y_LW_tryIn.2.1 13 = .ok (.astore 4, 2) := by decide +kernel
theorem d_LW_tryIn_15 : decode Y_LW_tryIn.2.1 15 = .ok (.ldc 15, 2) := by decide +kernel
theorem d_LW_tryIn_17 : decode Y_LW_tryIn.2.1 17 = .ok (.ireturn, 1) := by decide +kernel
def f_LW_tryIn (w : zW) (D : zD) (r0 : Nat) (x1 : Int32) (x2 : Int32) (x3 : Int32) : Option (Int32 × zD) := zobj w 0 r0 (zcx (f_SF_sirenIn w D r0 x1 x2 x3) (fun r D1 => Sum.elim (fun v => some (v, D1)) (fun E => zhs2 E "java/lang/IndexOutOfBoundsException" "java/lang/IllegalArgumentException" (some ((-9999001 : Int32), D1)) (some ((-9999002 : Int32), D1))) r))
set_option maxHeartbeats 4000000 in
theorem c_LW_tryIn (z : zT) (D : zD) (r0 : Nat) (x1 : Int32) (x2 : Int32) (x3 : Int32) : zMH Y_LW_tryIn 9 1 6 (zqY z.2) (f_LW_tryIn z.2 D r0 x1 x2 x3) [.ref r0, .int x1, .int x2, .int x3] z D := by
  refine zMH_of (by decide +kernel) (Nat.le_of_ble_eq_true rfl) (fun _ _ _ _ h => nomatch h.1) (fun K => ?_)
  unfold f_LW_tryIn
  refine z_aload_n (pc := 0) d_LW_tryIn_0 rfl 0 rfl ?_
  refine z_iload_n (pc := 1) d_LW_tryIn_1 rfl 1 rfl ?_
  refine z_iload_n (pc := 2) d_LW_tryIn_2 rfl 2 rfl ?_
  refine z_iload_n (pc := 3) d_LW_tryIn_3 rfl 3 rfl ?_
  refine z_callX2 (pc := 4) (kc2 := 0) (ks2 := 0) [.int x1, .int x2, .int x3] lkV_LW_82 rfl (c_SF_sirenIn z D r0 x1 x2 x3) (by decide) (by decide) (by decide) rfl rfl (Nat.le_of_ble_eq_true rfl) d_LW_tryIn_4 ct_LW_tryIn_1 ct_LW_tryIn_2 (fun v D1 z1 e1 t1 => ?_) (fun D1 z1 q1 e1 t1 => ?_) (fun D1 z1 q1 e1 t1 => ?_)
  · rw [← e1]
    exact z_yret (pc := 7) rfl d_LW_tryIn_7 rfl
  · rw [← e1]
    refine z_astore (pc := 8) d_LW_tryIn_8 (by decide) (lv' := [(4, .ref q1), (0, .ref r0), (1, .int x1), (2, .int x2), (3, .int x3)]) rfl ?_
    refine z_ldc (pc := 10) w_k_LW_33 d_LW_tryIn_10 ?_
    exact z_yret (pc := 12) rfl d_LW_tryIn_12 rfl
  · rw [← e1]
    refine z_astore (pc := 13) d_LW_tryIn_13 (by decide) (lv' := [(4, .ref q1), (0, .ref r0), (1, .int x1), (2, .int x2), (3, .int x3)]) rfl ?_
    refine z_ldc (pc := 15) w_k_LW_15 d_LW_tryIn_15 ?_
    exact z_yret (pc := 17) rfl d_LW_tryIn_17 rfl
theorem d_LW_tryWhen_0 : decode Y_LW_tryWhen.2.1 0 = .ok (.aload_n 0, 1) := by decide +kernel
theorem d_LW_tryWhen_1 : decode Y_LW_tryWhen.2.1 1 = .ok (.iload_n 1, 1) := by decide +kernel
theorem d_LW_tryWhen_2 : decode Y_LW_tryWhen.2.1 2 = .ok (.iload_n 2, 1) := by decide +kernel
theorem d_LW_tryWhen_3 : decode Y_LW_tryWhen.2.1 3 = .ok (.invokevirtual 85, 3) := by decide +kernel
theorem d_LW_tryWhen_6 : decode Y_LW_tryWhen.2.1 6 = .ok (.ireturn, 1) := by decide +kernel
theorem d_LW_tryWhen_7 : decode Y_LW_tryWhen.2.1 7 = .ok (.astore_n 3, 1) := by decide +kernel
theorem d_LW_tryWhen_8 : decode Y_LW_tryWhen.2.1 8 = .ok (.ldc 33, 2) := by decide +kernel
theorem d_LW_tryWhen_10 : decode Y_LW_tryWhen.2.1 10 = .ok (.ireturn, 1) := by decide +kernel
def f_LW_tryWhen (w : zW) (D : zD) (r0 : Nat) (x1 : Int32) (x2 : Int32) : Option (Int32 × zD) := zobj w 0 r0 (zcx (f_SF_heardIn w D r0 x1 x2) (fun r D1 => Sum.elim (fun v => some (v, D1)) (fun E => zhs1 E "java/lang/IndexOutOfBoundsException" (some ((-9999001 : Int32), D1))) r))
set_option maxHeartbeats 4000000 in
theorem c_LW_tryWhen (z : zT) (D : zD) (r0 : Nat) (x1 : Int32) (x2 : Int32) : zMH Y_LW_tryWhen 9 1 6 (zqY z.2) (f_LW_tryWhen z.2 D r0 x1 x2) [.ref r0, .int x1, .int x2] z D := by
  refine zMH_of (by decide +kernel) (Nat.le_of_ble_eq_true rfl) (fun _ _ _ _ h => nomatch h.1) (fun K => ?_)
  unfold f_LW_tryWhen
  refine z_aload_n (pc := 0) d_LW_tryWhen_0 rfl 0 rfl ?_
  refine z_iload_n (pc := 1) d_LW_tryWhen_1 rfl 1 rfl ?_
  refine z_iload_n (pc := 2) d_LW_tryWhen_2 rfl 2 rfl ?_
  refine z_callX1 (pc := 3) (kc2 := 0) (ks2 := 0) [.int x1, .int x2] lkV_LW_85 rfl (c_SF_heardIn z D r0 x1 x2) (by decide) (by decide) (by decide) rfl rfl (Nat.le_of_ble_eq_true rfl) d_LW_tryWhen_3 ct_LW_tryWhen_1 (fun v D1 z1 e1 t1 => ?_) (fun D1 z1 q1 e1 t1 => ?_)
  · rw [← e1]
    exact z_yret (pc := 6) rfl d_LW_tryWhen_6 rfl
  · rw [← e1]
    refine z_astore_n (pc := 7) d_LW_tryWhen_7 rfl (by decide) (lv' := [(3, .ref q1), (0, .ref r0), (1, .int x1), (2, .int x2)]) rfl ?_
    refine z_ldc (pc := 8) w_k_LW_33 d_LW_tryWhen_8 ?_
    exact z_yret (pc := 10) rfl d_LW_tryWhen_10 rfl
theorem d_LW_tryLeast_0 : decode Y_LW_tryLeast.2.1 0 = .ok (.aload_n 0, 1) := by decide +kernel
theorem d_LW_tryLeast_1 : decode Y_LW_tryLeast.2.1 1 = .ok (.iload_n 1, 1) := by decide +kernel
theorem d_LW_tryLeast_2 : decode Y_LW_tryLeast.2.1 2 = .ok (.invokevirtual 88, 3) := by decide +kernel
theorem d_LW_tryLeast_5 : decode Y_LW_tryLeast.2.1 5 = .ok (.ireturn, 1) := by decide +kernel
theorem d_LW_tryLeast_6 : decode Y_LW_tryLeast.2.1 6 = .ok (.astore_n 2, 1) := by decide +kernel
theorem d_LW_tryLeast_7 : decode Y_LW_tryLeast.2.1 7 = .ok (.ldc 15, 2) := by decide +kernel
theorem d_LW_tryLeast_9 : decode Y_LW_tryLeast.2.1 9 = .ok (.ireturn, 1) := by decide +kernel
def f_LW_tryLeast (w : zW) (D : zD) (r0 : Nat) (x1 : Int32) : Option (Int32 × zD) := zobj w 0 r0 (zcx (f_SF_leastSpeed w D r0 x1) (fun r D1 => Sum.elim (fun v => some (v, D1)) (fun E => zhs1 E "java/lang/IllegalArgumentException" (some ((-9999002 : Int32), D1))) r))
set_option maxHeartbeats 4000000 in
theorem c_LW_tryLeast (z : zT) (D : zD) (r0 : Nat) (x1 : Int32) : zMH Y_LW_tryLeast 9 1 6 (zqY z.2) (f_LW_tryLeast z.2 D r0 x1) [.ref r0, .int x1] z D := by
  refine zMH_of (by decide +kernel) (Nat.le_of_ble_eq_true rfl) (fun _ _ _ _ h => nomatch h.1) (fun K => ?_)
  unfold f_LW_tryLeast
  refine z_aload_n (pc := 0) d_LW_tryLeast_0 rfl 0 rfl ?_
  refine z_iload_n (pc := 1) d_LW_tryLeast_1 rfl 1 rfl ?_
  refine z_callX1 (pc := 2) (kc2 := 0) (ks2 := 0) [.int x1] lkV_LW_88 rfl (c_SF_leastSpeed z D r0 x1) (by decide) (by decide) (by decide) rfl rfl (Nat.le_of_ble_eq_true rfl) d_LW_tryLeast_2 ct_LW_tryLeast_1 (fun v D1 z1 e1 t1 => ?_) (fun D1 z1 q1 e1 t1 => ?_)
  · rw [← e1]
    exact z_yret (pc := 5) rfl d_LW_tryLeast_5 rfl
  · rw [← e1]
    refine z_astore_n (pc := 6) d_LW_tryLeast_6 rfl (by decide) (lv' := [(2, .ref q1), (0, .ref r0), (1, .int x1)]) rfl ?_
    refine z_ldc (pc := 7) w_k_LW_15 d_LW_tryLeast_7 ?_
    exact z_yret (pc := 9) rfl d_LW_tryLeast_9 rfl
theorem d_LW_tryKeep_0 : decode Y_LW_tryKeep.2.1 0 = .ok (.aload_n 0, 1) := by decide +kernel
theorem d_LW_tryKeep_1 : decode Y_LW_tryKeep.2.1 1 = .ok (.iload_n 1, 1) := by decide +kernel
theorem d_LW_tryKeep_2 : decode Y_LW_tryKeep.2.1 2 = .ok (.invokevirtual 91, 3) := by decide +kernel
theorem d_LW_tryKeep_5 : decode Y_LW_tryKeep.2.1 5 = .ok (.ireturn, 1) := by decide +kernel
theorem d_LW_tryKeep_6 : decode Y_LW_tryKeep.2.1 6 = .ok (.astore_n 2, 1) := by decide +kernel
theorem d_LW_tryKeep_7 : decode Y_LW_tryKeep.2.1 7 = .ok (.ldc 33, 2) := by decide +kernel
theorem d_LW_tryKeep_9 : decode Y_LW_tryKeep.2.1 9 = .ok (.ireturn, 1) := by decide +kernel
def f_LW_tryKeep (w : zW) (D : zD) (r0 : Nat) (x1 : Int32) : Option (Int32 × zD) := zobj w 0 r0 (zcx (f_SF_save w D r0 x1) (fun r D1 => Sum.elim (fun v => some (v, D1)) (fun E => zhs1 E "java/lang/IndexOutOfBoundsException" (some ((-9999001 : Int32), D1))) r))
set_option maxHeartbeats 4000000 in
theorem c_LW_tryKeep (z : zT) (D : zD) (r0 : Nat) (x1 : Int32) : zMH Y_LW_tryKeep 9 1 6 (zqY z.2) (f_LW_tryKeep z.2 D r0 x1) [.ref r0, .int x1] z D := by
  refine zMH_of (by decide +kernel) (Nat.le_of_ble_eq_true rfl) (fun _ _ _ _ h => nomatch h.1) (fun K => ?_)
  unfold f_LW_tryKeep
  refine z_aload_n (pc := 0) d_LW_tryKeep_0 rfl 0 rfl ?_
  refine z_iload_n (pc := 1) d_LW_tryKeep_1 rfl 1 rfl ?_
  refine z_callX1 (pc := 2) (kc2 := 0) (ks2 := 0) [.int x1] lkV_LW_91 rfl (c_SF_save z D r0 x1) (by decide) (by decide) (by decide) rfl rfl (Nat.le_of_ble_eq_true rfl) d_LW_tryKeep_2 ct_LW_tryKeep_1 (fun v D1 z1 e1 t1 => ?_) (fun D1 z1 q1 e1 t1 => ?_)
  · rw [← e1]
    exact z_yret (pc := 5) rfl d_LW_tryKeep_5 rfl
  · rw [← e1]
    refine z_astore_n (pc := 6) d_LW_tryKeep_6 rfl (by decide) (lv' := [(2, .ref q1), (0, .ref r0), (1, .int x1)]) rfl ?_
    refine z_ldc (pc := 7) w_k_LW_33 d_LW_tryKeep_7 ?_
    exact z_yret (pc := 9) rfl d_LW_tryKeep_9 rfl
theorem d_LW_tryBack_0 : decode Y_LW_tryBack.2.1 0 = .ok (.aload_n 0, 1) := by decide +kernel
theorem d_LW_tryBack_1 : decode Y_LW_tryBack.2.1 1 = .ok (.iload_n 1, 1) := by decide +kernel
theorem d_LW_tryBack_2 : decode Y_LW_tryBack.2.1 2 = .ok (.invokevirtual 94, 3) := by decide +kernel
theorem d_LW_tryBack_5 : decode Y_LW_tryBack.2.1 5 = .ok (.ireturn, 1) := by decide +kernel
theorem d_LW_tryBack_6 : decode Y_LW_tryBack.2.1 6 = .ok (.astore_n 2, 1) := by decide +kernel
theorem d_LW_tryBack_7 : decode Y_LW_tryBack.2.1 7 = .ok (.ldc 33, 2) := by decide +kernel
theorem d_LW_tryBack_9 : decode Y_LW_tryBack.2.1 9 = .ok (.ireturn, 1) := by decide +kernel
theorem d_LW_tryBack_10 : decode Y_LW_tryBack.2.1 10 = .ok (.astore_n 2, 1) := by decide +kernel
theorem d_LW_tryBack_11 : decode Y_LW_tryBack.2.1 11 = .ok (.ldc 18, 2) := by decide +kernel
theorem d_LW_tryBack_13 : decode Y_LW_tryBack.2.1 13 = .ok (.ireturn, 1) := by decide +kernel
def f_LW_tryBack (w : zW) (D : zD) (r0 : Nat) (x1 : Int32) : Option (Int32 × zD) := zobj w 0 r0 (zcx (f_SF_restore w D r0 x1) (fun r D1 => Sum.elim (fun v => some (v, D1)) (fun E => zhs2 E "java/lang/IndexOutOfBoundsException" "java/lang/IllegalStateException" (some ((-9999001 : Int32), D1)) (some ((-9999003 : Int32), D1))) r))
set_option maxHeartbeats 4000000 in
theorem c_LW_tryBack (z : zT) (D : zD) (r0 : Nat) (x1 : Int32) : zMH Y_LW_tryBack 9 1 6 (zqY z.2) (f_LW_tryBack z.2 D r0 x1) [.ref r0, .int x1] z D := by
  refine zMH_of (by decide +kernel) (Nat.le_of_ble_eq_true rfl) (fun _ _ _ _ h => nomatch h.1) (fun K => ?_)
  unfold f_LW_tryBack
  refine z_aload_n (pc := 0) d_LW_tryBack_0 rfl 0 rfl ?_
  refine z_iload_n (pc := 1) d_LW_tryBack_1 rfl 1 rfl ?_
  refine z_callX2 (pc := 2) (kc2 := 0) (ks2 := 0) [.int x1] lkV_LW_94 rfl (c_SF_restore z D r0 x1) (by decide) (by decide) (by decide) rfl rfl (Nat.le_of_ble_eq_true rfl) d_LW_tryBack_2 ct_LW_tryBack_1 ct_LW_tryBack_2 (fun v D1 z1 e1 t1 => ?_) (fun D1 z1 q1 e1 t1 => ?_) (fun D1 z1 q1 e1 t1 => ?_)
  · rw [← e1]
    exact z_yret (pc := 5) rfl d_LW_tryBack_5 rfl
  · rw [← e1]
    refine z_astore_n (pc := 6) d_LW_tryBack_6 rfl (by decide) (lv' := [(2, .ref q1), (0, .ref r0), (1, .int x1)]) rfl ?_
    refine z_ldc (pc := 7) w_k_LW_33 d_LW_tryBack_7 ?_
    exact z_yret (pc := 9) rfl d_LW_tryBack_9 rfl
  · rw [← e1]
    refine z_astore_n (pc := 10) d_LW_tryBack_10 rfl (by decide) (lv' := [(2, .ref q1), (0, .ref r0), (1, .int x1)]) rfl ?_
    refine z_ldc (pc := 11) w_k_LW_18 d_LW_tryBack_11 ?_
    exact z_yret (pc := 13) rfl d_LW_tryBack_13 rfl
