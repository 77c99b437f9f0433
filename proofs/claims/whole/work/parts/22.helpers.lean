def Y_LW_append : zY := (⟨"SirenFairLaw", "append", "(LSirenFair;I[J)I"⟩, method_3_code, 4, some .int, [(0, 9, 12, 13), (0, 9, 15, 15)])
theorem w_c_SF_append : Cond.code Y_SF_append.1 Y_SF_append.2.1 Y_SF_append.2.2.1 Y_SF_append.2.2.2.1 ∈ zWd := zin 543 (by decide +kernel) rfl
theorem lk_SF_append : zlk Y_SF_append 1 := ⟨w_c_SF_append, w_ini_SF, by decide +kernel, by decide +kernel, by decide⟩
theorem w_ml_LW_7 : Cond.methodLink "SirenFairLaw" 7 Y_SF_append.1 ∈ zWd := zin 540 (by decide +kernel) rfl
theorem w_im_SF_append : Cond.instanceMethod Y_SF_append.1 ∈ zWd := zin 541 (by decide +kernel) rfl
theorem w_sel_SF_append : Cond.selects "SirenFair" Y_SF_append.1 Y_SF_append.1 ∈ zWd := zin 542 (by decide +kernel) rfl
theorem lkV_LW_7 : zlkV "SirenFairLaw" 7 Y_SF_append 1 := ⟨lk_SF_append, w_ml_LW_7, w_im_SF_append, w_sel_SF_append⟩
theorem w_cl_LW_13 : Cond.classLink "SirenFairLaw" 13 "java/lang/IllegalArgumentException" ∈ zWd := zin 538 (by decide +kernel) rfl
theorem w_cast_IllegalArgumentException : Cond.castable "java/lang/IllegalArgumentException" "java/lang/IllegalArgumentException" ∈ zWd := zin 549 (by decide +kernel) rfl
theorem ct_LW_append_1 : zcatch Y_LW_append 4 "java/lang/IllegalArgumentException" 12 := ⟨[], ⟨0, 9, 12, 13⟩, [⟨0, 9, 15, 15⟩], rfl, rfl, by decide, by decide, w_cl_LW_13, w_cast_IllegalArgumentException, fun y hy => nomatch hy⟩
theorem w_cl_LW_15 : Cond.classLink "SirenFairLaw" 15 "java/lang/IllegalStateException" ∈ zWd := zin 539 (by decide +kernel) rfl
theorem w_cast_IllegalStateException : Cond.castable "java/lang/IllegalStateException" "java/lang/IllegalStateException" ∈ zWd := zin 617 (by decide +kernel) rfl
theorem ct_LW_append_2 : zcatch Y_LW_append 4 "java/lang/IllegalStateException" 15 := ⟨[⟨0, 9, 12, 13⟩], ⟨0, 9, 15, 15⟩, [], rfl, rfl, by decide, by decide, w_cl_LW_15, w_cast_IllegalStateException, fun y hy => by rcases List.mem_singleton.mp hy with rfl; exact ⟨by decide, "java/lang/IllegalArgumentException", w_cl_LW_13, by decide⟩⟩
def Y_LW_load : zY := (⟨"SirenFairLaw", "load", "(LSirenFair;[J)I"⟩, method_4_code, 3, some .int, [(0, 8, 11, 15)])
theorem w_c_SF_load : Cond.code Y_SF_load.1 Y_SF_load.2.1 Y_SF_load.2.2.1 Y_SF_load.2.2.2.1 ∈ zWd := zin 641 (by decide +kernel) rfl
theorem lk_SF_load : zlk Y_SF_load 0 := ⟨w_c_SF_load, w_ini_SF, by decide +kernel, by decide +kernel, by decide⟩
theorem w_ml_LW_17 : Cond.methodLink "SirenFairLaw" 17 Y_SF_load.1 ∈ zWd := zin 638 (by decide +kernel) rfl
theorem w_im_SF_load : Cond.instanceMethod Y_SF_load.1 ∈ zWd := zin 639 (by decide +kernel) rfl
theorem w_sel_SF_load : Cond.selects "SirenFair" Y_SF_load.1 Y_SF_load.1 ∈ zWd := zin 640 (by decide +kernel) rfl
theorem lkV_LW_17 : zlkV "SirenFairLaw" 17 Y_SF_load 0 := ⟨lk_SF_load, w_ml_LW_17, w_im_SF_load, w_sel_SF_load⟩
theorem ct_LW_load_1 : zcatch Y_LW_load 3 "java/lang/IllegalStateException" 11 := ⟨[], ⟨0, 8, 11, 15⟩, [], rfl, rfl, by decide, by decide, w_cl_LW_15, w_cast_IllegalStateException, fun y hy => nomatch hy⟩
def Y_LW_about : zY := (⟨"SirenFairLaw", "about", "(LSirenFair;I[J)I"⟩, method_5_code, 4, some .int, [(0, 9, 12, 13)])
theorem w_c_SF_about : Cond.code Y_SF_about.1 Y_SF_about.2.1 Y_SF_about.2.2.1 Y_SF_about.2.2.2.1 ∈ zWd := zin 683 (by decide +kernel) rfl
theorem lk_SF_about : zlk Y_SF_about 1 := ⟨w_c_SF_about, w_ini_SF, by decide +kernel, by decide +kernel, by decide⟩
theorem w_ml_LW_21 : Cond.methodLink "SirenFairLaw" 21 Y_SF_about.1 ∈ zWd := zin 680 (by decide +kernel) rfl
theorem w_im_SF_about : Cond.instanceMethod Y_SF_about.1 ∈ zWd := zin 681 (by decide +kernel) rfl
theorem w_sel_SF_about : Cond.selects "SirenFair" Y_SF_about.1 Y_SF_about.1 ∈ zWd := zin 682 (by decide +kernel) rfl
theorem lkV_LW_21 : zlkV "SirenFairLaw" 21 Y_SF_about 1 := ⟨lk_SF_about, w_ml_LW_21, w_im_SF_about, w_sel_SF_about⟩
theorem ct_LW_about_1 : zcatch Y_LW_about 4 "java/lang/IllegalArgumentException" 12 := ⟨[], ⟨0, 9, 12, 13⟩, [], rfl, rfl, by decide, by decide, w_cl_LW_13, w_cast_IllegalArgumentException, fun y hy => nomatch hy⟩
def Y_LW_sirenOf : zY := (⟨"SirenFairLaw", "sirenOf", "(LSirenFair;II[J)I"⟩, method_6_code, 5, some .int, [(0, 10, 13, 28), (0, 10, 17, 13)])
theorem w_c_SF_sirenOf : Cond.code Y_SF_sirenOf.1 Y_SF_sirenOf.2.1 Y_SF_sirenOf.2.2.1 Y_SF_sirenOf.2.2.2.1 ∈ zWd := zin 692 (by decide +kernel) rfl
theorem lk_SF_sirenOf : zlk Y_SF_sirenOf 2 := ⟨w_c_SF_sirenOf, w_ini_SF, by decide +kernel, by decide +kernel, by decide⟩
theorem w_ml_LW_24 : Cond.methodLink "SirenFairLaw" 24 Y_SF_sirenOf.1 ∈ zWd := zin 689 (by decide +kernel) rfl
theorem w_im_SF_sirenOf : Cond.instanceMethod Y_SF_sirenOf.1 ∈ zWd := zin 690 (by decide +kernel) rfl
theorem w_sel_SF_sirenOf : Cond.selects "SirenFair" Y_SF_sirenOf.1 Y_SF_sirenOf.1 ∈ zWd := zin 691 (by decide +kernel) rfl
theorem lkV_LW_24 : zlkV "SirenFairLaw" 24 Y_SF_sirenOf 2 := ⟨lk_SF_sirenOf, w_ml_LW_24, w_im_SF_sirenOf, w_sel_SF_sirenOf⟩
theorem w_cl_LW_28 : Cond.classLink "SirenFairLaw" 28 "java/lang/IndexOutOfBoundsException" ∈ zWd := zin 688 (by decide +kernel) rfl
theorem w_cast_IndexOutOfBoundsException : Cond.castable "java/lang/IndexOutOfBoundsException" "java/lang/IndexOutOfBoundsException" ∈ zWd := zin 696 (by decide +kernel) rfl
theorem ct_LW_sirenOf_1 : zcatch Y_LW_sirenOf 5 "java/lang/IndexOutOfBoundsException" 13 := ⟨[], ⟨0, 10, 13, 28⟩, [⟨0, 10, 17, 13⟩], rfl, rfl, by decide, by decide, w_cl_LW_28, w_cast_IndexOutOfBoundsException, fun y hy => nomatch hy⟩
theorem ct_LW_sirenOf_2 : zcatch Y_LW_sirenOf 5 "java/lang/IllegalArgumentException" 17 := ⟨[⟨0, 10, 13, 28⟩], ⟨0, 10, 17, 13⟩, [], rfl, rfl, by decide, by decide, w_cl_LW_13, w_cast_IllegalArgumentException, fun y hy => by rcases List.mem_singleton.mp hy with rfl; exact ⟨by decide, "java/lang/IndexOutOfBoundsException", w_cl_LW_28, by decide⟩⟩
def Y_LW_hearerOf : zY := (⟨"SirenFairLaw", "hearerOf", "(LSirenFair;II[J)I"⟩, method_7_code, 5, some .int, [(0, 10, 13, 28), (0, 10, 17, 13)])
theorem w_c_SF_hearerOf : Cond.code Y_SF_hearerOf.1 Y_SF_hearerOf.2.1 Y_SF_hearerOf.2.2.1 Y_SF_hearerOf.2.2.2.1 ∈ zWd := zin 719 (by decide +kernel) rfl
theorem lk_SF_hearerOf : zlk Y_SF_hearerOf 2 := ⟨w_c_SF_hearerOf, w_ini_SF, by decide +kernel, by decide +kernel, by decide⟩
theorem w_ml_LW_30 : Cond.methodLink "SirenFairLaw" 30 Y_SF_hearerOf.1 ∈ zWd := zin 716 (by decide +kernel) rfl
theorem w_im_SF_hearerOf : Cond.instanceMethod Y_SF_hearerOf.1 ∈ zWd := zin 717 (by decide +kernel) rfl
theorem w_sel_SF_hearerOf : Cond.selects "SirenFair" Y_SF_hearerOf.1 Y_SF_hearerOf.1 ∈ zWd := zin 718 (by decide +kernel) rfl
theorem lkV_LW_30 : zlkV "SirenFairLaw" 30 Y_SF_hearerOf 2 := ⟨lk_SF_hearerOf, w_ml_LW_30, w_im_SF_hearerOf, w_sel_SF_hearerOf⟩
theorem ct_LW_hearerOf_1 : zcatch Y_LW_hearerOf 5 "java/lang/IndexOutOfBoundsException" 13 := ⟨[], ⟨0, 10, 13, 28⟩, [⟨0, 10, 17, 13⟩], rfl, rfl, by decide, by decide, w_cl_LW_28, w_cast_IndexOutOfBoundsException, fun y hy => nomatch hy⟩
theorem ct_LW_hearerOf_2 : zcatch Y_LW_hearerOf 5 "java/lang/IllegalArgumentException" 17 := ⟨[⟨0, 10, 13, 28⟩], ⟨0, 10, 17, 13⟩, [], rfl, rfl, by decide, by decide, w_cl_LW_13, w_cast_IllegalArgumentException, fun y hy => by rcases List.mem_singleton.mp hy with rfl; exact ⟨by decide, "java/lang/IndexOutOfBoundsException", w_cl_LW_28, by decide⟩⟩
def Y_LW_wallOf : zY := (⟨"SirenFairLaw", "wallOf", "(LSirenFair;II[J)I"⟩, method_8_code, 5, some .int, [(0, 10, 13, 28), (0, 10, 17, 13)])
theorem w_c_SF_wallOf : Cond.code Y_SF_wallOf.1 Y_SF_wallOf.2.1 Y_SF_wallOf.2.2.1 Y_SF_wallOf.2.2.2.1 ∈ zWd := zin 739 (by decide +kernel) rfl
theorem lk_SF_wallOf : zlk Y_SF_wallOf 2 := ⟨w_c_SF_wallOf, w_ini_SF, by decide +kernel, by decide +kernel, by decide⟩
theorem w_ml_LW_33 : Cond.methodLink "SirenFairLaw" 33 Y_SF_wallOf.1 ∈ zWd := zin 736 (by decide +kernel) rfl
theorem w_im_SF_wallOf : Cond.instanceMethod Y_SF_wallOf.1 ∈ zWd := zin 737 (by decide +kernel) rfl
theorem w_sel_SF_wallOf : Cond.selects "SirenFair" Y_SF_wallOf.1 Y_SF_wallOf.1 ∈ zWd := zin 738 (by decide +kernel) rfl
theorem lkV_LW_33 : zlkV "SirenFairLaw" 33 Y_SF_wallOf 2 := ⟨lk_SF_wallOf, w_ml_LW_33, w_im_SF_wallOf, w_sel_SF_wallOf⟩
theorem ct_LW_wallOf_1 : zcatch Y_LW_wallOf 5 "java/lang/IndexOutOfBoundsException" 13 := ⟨[], ⟨0, 10, 13, 28⟩, [⟨0, 10, 17, 13⟩], rfl, rfl, by decide, by decide, w_cl_LW_28, w_cast_IndexOutOfBoundsException, fun y hy => nomatch hy⟩
theorem ct_LW_wallOf_2 : zcatch Y_LW_wallOf 5 "java/lang/IllegalArgumentException" 17 := ⟨[⟨0, 10, 13, 28⟩], ⟨0, 10, 17, 13⟩, [], rfl, rfl, by decide, by decide, w_cl_LW_13, w_cast_IllegalArgumentException, fun y hy => by rcases List.mem_singleton.mp hy with rfl; exact ⟨by decide, "java/lang/IndexOutOfBoundsException", w_cl_LW_28, by decide⟩⟩
def Y_LW_pulse : zY := (⟨"SirenFairLaw", "pulse", "(LSirenFair;II[J)I"⟩, method_9_code, 5, some .int, [(0, 10, 13, 28), (0, 10, 17, 13)])
theorem w_c_SF_pulse : Cond.code Y_SF_pulse.1 Y_SF_pulse.2.1 Y_SF_pulse.2.2.1 Y_SF_pulse.2.2.2.1 ∈ zWd := zin 752 (by decide +kernel) rfl
theorem lk_SF_pulse : zlk Y_SF_pulse 2 := ⟨w_c_SF_pulse, w_ini_SF, by decide +kernel, by decide +kernel, by decide⟩
theorem w_ml_LW_36 : Cond.methodLink "SirenFairLaw" 36 Y_SF_pulse.1 ∈ zWd := zin 749 (by decide +kernel) rfl
theorem w_im_SF_pulse : Cond.instanceMethod Y_SF_pulse.1 ∈ zWd := zin 750 (by decide +kernel) rfl
theorem w_sel_SF_pulse : Cond.selects "SirenFair" Y_SF_pulse.1 Y_SF_pulse.1 ∈ zWd := zin 751 (by decide +kernel) rfl
theorem lkV_LW_36 : zlkV "SirenFairLaw" 36 Y_SF_pulse 2 := ⟨lk_SF_pulse, w_ml_LW_36, w_im_SF_pulse, w_sel_SF_pulse⟩
theorem ct_LW_pulse_1 : zcatch Y_LW_pulse 5 "java/lang/IndexOutOfBoundsException" 13 := ⟨[], ⟨0, 10, 13, 28⟩, [⟨0, 10, 17, 13⟩], rfl, rfl, by decide, by decide, w_cl_LW_28, w_cast_IndexOutOfBoundsException, fun y hy => nomatch hy⟩
theorem ct_LW_pulse_2 : zcatch Y_LW_pulse 5 "java/lang/IllegalArgumentException" 17 := ⟨[⟨0, 10, 13, 28⟩], ⟨0, 10, 17, 13⟩, [], rfl, rfl, by decide, by decide, w_cl_LW_13, w_cast_IllegalArgumentException, fun y hy => by rcases List.mem_singleton.mp hy with rfl; exact ⟨by decide, "java/lang/IndexOutOfBoundsException", w_cl_LW_28, by decide⟩⟩
def Y_LW_heard : zY := (⟨"SirenFairLaw", "heard", "(LSirenFair;III[J)I"⟩, method_10_code, 6, some .int, [(0, 12, 15, 28), (0, 12, 19, 13)])
theorem w_c_SF_heard : Cond.code Y_SF_heard.1 Y_SF_heard.2.1 Y_SF_heard.2.2.1 Y_SF_heard.2.2.2.1 ∈ zWd := zin 761 (by decide +kernel) rfl
theorem lk_SF_heard : zlk Y_SF_heard 3 := ⟨w_c_SF_heard, w_ini_SF, by decide +kernel, by decide +kernel, by decide⟩
theorem w_ml_LW_39 : Cond.methodLink "SirenFairLaw" 39 Y_SF_heard.1 ∈ zWd := zin 758 (by decide +kernel) rfl
theorem w_im_SF_heard : Cond.instanceMethod Y_SF_heard.1 ∈ zWd := zin 759 (by decide +kernel) rfl
theorem w_sel_SF_heard : Cond.selects "SirenFair" Y_SF_heard.1 Y_SF_heard.1 ∈ zWd := zin 760 (by decide +kernel) rfl
theorem lkV_LW_39 : zlkV "SirenFairLaw" 39 Y_SF_heard 3 := ⟨lk_SF_heard, w_ml_LW_39, w_im_SF_heard, w_sel_SF_heard⟩
theorem ct_LW_heard_1 : zcatch Y_LW_heard 7 "java/lang/IndexOutOfBoundsException" 15 := ⟨[], ⟨0, 12, 15, 28⟩, [⟨0, 12, 19, 13⟩], rfl, rfl, by decide, by decide, w_cl_LW_28, w_cast_IndexOutOfBoundsException, fun y hy => nomatch hy⟩
theorem ct_LW_heard_2 : zcatch Y_LW_heard 7 "java/lang/IllegalArgumentException" 19 := ⟨[⟨0, 12, 15, 28⟩], ⟨0, 12, 19, 13⟩, [], rfl, rfl, by decide, by decide, w_cl_LW_13, w_cast_IllegalArgumentException, fun y hy => by rcases List.mem_singleton.mp hy with rfl; exact ⟨by decide, "java/lang/IndexOutOfBoundsException", w_cl_LW_28, by decide⟩⟩
def Y_LW_siren : zY := (⟨"SirenFairLaw", "siren", "(LSirenFair;IIIII[J)I"⟩, method_11_code, 8, some .int, [(0, 16, 19, 13), (0, 16, 23, 15)])
theorem w_c_SF_siren : Cond.code Y_SF_siren.1 Y_SF_siren.2.1 Y_SF_siren.2.2.1 Y_SF_siren.2.2.2.1 ∈ zWd := zin 781 (by decide +kernel) rfl
theorem lk_SF_siren : zlk Y_SF_siren 5 := ⟨w_c_SF_siren, w_ini_SF, by decide +kernel, by decide +kernel, by decide⟩
theorem w_ml_LW_43 : Cond.methodLink "SirenFairLaw" 43 Y_SF_siren.1 ∈ zWd := zin 778 (by decide +kernel) rfl
theorem w_im_SF_siren : Cond.instanceMethod Y_SF_siren.1 ∈ zWd := zin 779 (by decide +kernel) rfl
theorem w_sel_SF_siren : Cond.selects "SirenFair" Y_SF_siren.1 Y_SF_siren.1 ∈ zWd := zin 780 (by decide +kernel) rfl
theorem lkV_LW_43 : zlkV "SirenFairLaw" 43 Y_SF_siren 5 := ⟨lk_SF_siren, w_ml_LW_43, w_im_SF_siren, w_sel_SF_siren⟩
theorem ct_LW_siren_1 : zcatch Y_LW_siren 11 "java/lang/IllegalArgumentException" 19 := ⟨[], ⟨0, 16, 19, 13⟩, [⟨0, 16, 23, 15⟩], rfl, rfl, by decide, by decide, w_cl_LW_13, w_cast_IllegalArgumentException, fun y hy => nomatch hy⟩
theorem ct_LW_siren_2 : zcatch Y_LW_siren 11 "java/lang/IllegalStateException" 23 := ⟨[⟨0, 16, 19, 13⟩], ⟨0, 16, 23, 15⟩, [], rfl, rfl, by decide, by decide, w_cl_LW_15, w_cast_IllegalStateException, fun y hy => by rcases List.mem_singleton.mp hy with rfl; exact ⟨by decide, "java/lang/IllegalArgumentException", w_cl_LW_13, by decide⟩⟩
def Y_LW_hearer : zY := (⟨"SirenFairLaw", "hearer", "(LSirenFair;IIII[J)I"⟩, method_12_code, 7, some .int, [(0, 14, 17, 13), (0, 14, 21, 15)])
theorem w_c_SF_hearer : Cond.code Y_SF_hearer.1 Y_SF_hearer.2.1 Y_SF_hearer.2.2.1 Y_SF_hearer.2.2.2.1 ∈ zWd := zin 795 (by decide +kernel) rfl
theorem lk_SF_hearer : zlk Y_SF_hearer 4 := ⟨w_c_SF_hearer, w_ini_SF, by decide +kernel, by decide +kernel, by decide⟩
theorem w_ml_LW_47 : Cond.methodLink "SirenFairLaw" 47 Y_SF_hearer.1 ∈ zWd := zin 792 (by decide +kernel) rfl
theorem w_im_SF_hearer : Cond.instanceMethod Y_SF_hearer.1 ∈ zWd := zin 793 (by decide +kernel) rfl
theorem w_sel_SF_hearer : Cond.selects "SirenFair" Y_SF_hearer.1 Y_SF_hearer.1 ∈ zWd := zin 794 (by decide +kernel) rfl
theorem lkV_LW_47 : zlkV "SirenFairLaw" 47 Y_SF_hearer 4 := ⟨lk_SF_hearer, w_ml_LW_47, w_im_SF_hearer, w_sel_SF_hearer⟩
theorem ct_LW_hearer_1 : zcatch Y_LW_hearer 9 "java/lang/IllegalArgumentException" 17 := ⟨[], ⟨0, 14, 17, 13⟩, [⟨0, 14, 21, 15⟩], rfl, rfl, by decide, by decide, w_cl_LW_13, w_cast_IllegalArgumentException, fun y hy => nomatch hy⟩
theorem ct_LW_hearer_2 : zcatch Y_LW_hearer 9 "java/lang/IllegalStateException" 21 := ⟨[⟨0, 14, 17, 13⟩], ⟨0, 14, 21, 15⟩, [], rfl, rfl, by decide, by decide, w_cl_LW_15, w_cast_IllegalStateException, fun y hy => by rcases List.mem_singleton.mp hy with rfl; exact ⟨by decide, "java/lang/IllegalArgumentException", w_cl_LW_13, by decide⟩⟩
def Y_LW_wall : zY := (⟨"SirenFairLaw", "wall", "(LSirenFair;ZI[J)I"⟩, method_13_code, 5, some .int, [(0, 10, 13, 13), (0, 10, 17, 15)])
theorem w_c_SF_wall : Cond.code Y_SF_wall.1 Y_SF_wall.2.1 Y_SF_wall.2.2.1 Y_SF_wall.2.2.2.1 ∈ zWd := zin 805 (by decide +kernel) rfl
theorem lk_SF_wall : zlk Y_SF_wall 2 := ⟨w_c_SF_wall, w_ini_SF, by decide +kernel, by decide +kernel, by decide⟩
theorem w_ml_LW_51 : Cond.methodLink "SirenFairLaw" 51 Y_SF_wall.1 ∈ zWd := zin 802 (by decide +kernel) rfl
theorem w_im_SF_wall : Cond.instanceMethod Y_SF_wall.1 ∈ zWd := zin 803 (by decide +kernel) rfl
theorem w_sel_SF_wall : Cond.selects "SirenFair" Y_SF_wall.1 Y_SF_wall.1 ∈ zWd := zin 804 (by decide +kernel) rfl
theorem lkV_LW_51 : zlkV "SirenFairLaw" 51 Y_SF_wall 2 := ⟨lk_SF_wall, w_ml_LW_51, w_im_SF_wall, w_sel_SF_wall⟩
theorem ct_LW_wall_1 : zcatch Y_LW_wall 5 "java/lang/IllegalArgumentException" 13 := ⟨[], ⟨0, 10, 13, 13⟩, [⟨0, 10, 17, 15⟩], rfl, rfl, by decide, by decide, w_cl_LW_13, w_cast_IllegalArgumentException, fun y hy => nomatch hy⟩
theorem ct_LW_wall_2 : zcatch Y_LW_wall 5 "java/lang/IllegalStateException" 17 := ⟨[⟨0, 10, 13, 13⟩], ⟨0, 10, 17, 15⟩, [], rfl, rfl, by decide, by decide, w_cl_LW_15, w_cast_IllegalStateException, fun y hy => by rcases List.mem_singleton.mp hy with rfl; exact ⟨by decide, "java/lang/IllegalArgumentException", w_cl_LW_13, by decide⟩⟩
def Y_LW_turn : zY := (⟨"SirenFairLaw", "turn", "(LSirenFair;IZ[J)I"⟩, method_14_code, 5, some .int, [(0, 10, 13, 28)])
theorem w_c_SF_turn : Cond.code Y_SF_turn.1 Y_SF_turn.2.1 Y_SF_turn.2.2.1 Y_SF_turn.2.2.2.1 ∈ zWd := zin 814 (by decide +kernel) rfl
theorem lk_SF_turn : zlk Y_SF_turn 2 := ⟨w_c_SF_turn, w_ini_SF, by decide +kernel, by decide +kernel, by decide⟩
theorem w_ml_LW_55 : Cond.methodLink "SirenFairLaw" 55 Y_SF_turn.1 ∈ zWd := zin 811 (by decide +kernel) rfl
theorem w_im_SF_turn : Cond.instanceMethod Y_SF_turn.1 ∈ zWd := zin 812 (by decide +kernel) rfl
theorem w_sel_SF_turn : Cond.selects "SirenFair" Y_SF_turn.1 Y_SF_turn.1 ∈ zWd := zin 813 (by decide +kernel) rfl
theorem lkV_LW_55 : zlkV "SirenFairLaw" 55 Y_SF_turn 2 := ⟨lk_SF_turn, w_ml_LW_55, w_im_SF_turn, w_sel_SF_turn⟩
theorem ct_LW_turn_1 : zcatch Y_LW_turn 5 "java/lang/IndexOutOfBoundsException" 13 := ⟨[], ⟨0, 10, 13, 28⟩, [], rfl, rfl, by decide, by decide, w_cl_LW_28, w_cast_IndexOutOfBoundsException, fun y hy => nomatch hy⟩
def Y_LW_walk : zY := (⟨"SirenFairLaw", "walk", "(LSirenFair;III[J)I"⟩, method_15_code, 6, some .int, [(0, 12, 15, 28), (0, 12, 19, 13)])
theorem w_c_SF_walk : Cond.code Y_SF_walk.1 Y_SF_walk.2.1 Y_SF_walk.2.2.1 Y_SF_walk.2.2.2.1 ∈ zWd := zin 825 (by decide +kernel) rfl
theorem lk_SF_walk : zlk Y_SF_walk 3 := ⟨w_c_SF_walk, w_ini_SF, by decide +kernel, by decide +kernel, by decide⟩
theorem w_ml_LW_59 : Cond.methodLink "SirenFairLaw" 59 Y_SF_walk.1 ∈ zWd := zin 822 (by decide +kernel) rfl
theorem w_im_SF_walk : Cond.instanceMethod Y_SF_walk.1 ∈ zWd := zin 823 (by decide +kernel) rfl
theorem w_sel_SF_walk : Cond.selects "SirenFair" Y_SF_walk.1 Y_SF_walk.1 ∈ zWd := zin 824 (by decide +kernel) rfl
theorem lkV_LW_59 : zlkV "SirenFairLaw" 59 Y_SF_walk 3 := ⟨lk_SF_walk, w_ml_LW_59, w_im_SF_walk, w_sel_SF_walk⟩
theorem ct_LW_walk_1 : zcatch Y_LW_walk 7 "java/lang/IndexOutOfBoundsException" 15 := ⟨[], ⟨0, 12, 15, 28⟩, [⟨0, 12, 19, 13⟩], rfl, rfl, by decide, by decide, w_cl_LW_28, w_cast_IndexOutOfBoundsException, fun y hy => nomatch hy⟩
theorem ct_LW_walk_2 : zcatch Y_LW_walk 7 "java/lang/IllegalArgumentException" 19 := ⟨[⟨0, 12, 15, 28⟩], ⟨0, 12, 19, 13⟩, [], rfl, rfl, by decide, by decide, w_cl_LW_13, w_cast_IllegalArgumentException, fun y hy => by rcases List.mem_singleton.mp hy with rfl; exact ⟨by decide, "java/lang/IndexOutOfBoundsException", w_cl_LW_28, by decide⟩⟩
def Y_LW_ticks : zY := (⟨"SirenFairLaw", "ticks", "(LSirenFair;I[J)I"⟩, method_16_code, 4, some .int, [(0, 9, 12, 13)])
theorem w_c_SF_ticks : Cond.code Y_SF_ticks.1 Y_SF_ticks.2.1 Y_SF_ticks.2.2.1 Y_SF_ticks.2.2.2.1 ∈ zWd := zin 837 (by decide +kernel) rfl
theorem lk_SF_ticks : zlk Y_SF_ticks 1 := ⟨w_c_SF_ticks, w_ini_SF, by decide +kernel, by decide +kernel, by decide⟩
theorem w_ml_LW_62 : Cond.methodLink "SirenFairLaw" 62 Y_SF_ticks.1 ∈ zWd := zin 834 (by decide +kernel) rfl
theorem w_im_SF_ticks : Cond.instanceMethod Y_SF_ticks.1 ∈ zWd := zin 835 (by decide +kernel) rfl
theorem w_sel_SF_ticks : Cond.selects "SirenFair" Y_SF_ticks.1 Y_SF_ticks.1 ∈ zWd := zin 836 (by decide +kernel) rfl
theorem lkV_LW_62 : zlkV "SirenFairLaw" 62 Y_SF_ticks 1 := ⟨lk_SF_ticks, w_ml_LW_62, w_im_SF_ticks, w_sel_SF_ticks⟩
theorem ct_LW_ticks_1 : zcatch Y_LW_ticks 4 "java/lang/IllegalArgumentException" 12 := ⟨[], ⟨0, 9, 12, 13⟩, [], rfl, rfl, by decide, by decide, w_cl_LW_13, w_cast_IllegalArgumentException, fun y hy => nomatch hy⟩
def Y_LW_set : zY := (⟨"SirenFairLaw", "set", "(LSirenFair;II[J)I"⟩, method_17_code, 5, some .int, [(0, 10, 13, 13)])
theorem w_c_SF_set : Cond.code Y_SF_set.1 Y_SF_set.2.1 Y_SF_set.2.2.1 Y_SF_set.2.2.2.1 ∈ zWd := zin 845 (by decide +kernel) rfl
theorem lk_SF_set : zlk Y_SF_set 2 := ⟨w_c_SF_set, w_ini_SF, by decide +kernel, by decide +kernel, by decide⟩
theorem w_ml_LW_65 : Cond.methodLink "SirenFairLaw" 65 Y_SF_set.1 ∈ zWd := zin 842 (by decide +kernel) rfl
theorem w_im_SF_set : Cond.instanceMethod Y_SF_set.1 ∈ zWd := zin 843 (by decide +kernel) rfl
theorem w_sel_SF_set : Cond.selects "SirenFair" Y_SF_set.1 Y_SF_set.1 ∈ zWd := zin 844 (by decide +kernel) rfl
theorem lkV_LW_65 : zlkV "SirenFairLaw" 65 Y_SF_set 2 := ⟨lk_SF_set, w_ml_LW_65, w_im_SF_set, w_sel_SF_set⟩
theorem ct_LW_set_1 : zcatch Y_LW_set 5 "java/lang/IllegalArgumentException" 13 := ⟨[], ⟨0, 10, 13, 13⟩, [], rfl, rfl, by decide, by decide, w_cl_LW_13, w_cast_IllegalArgumentException, fun y hy => nomatch hy⟩
def Y_LW_undo : zY := (⟨"SirenFairLaw", "undo", "(LSirenFair;[J)I"⟩, method_18_code, 3, some .int, [(0, 8, 11, 15)])
theorem w_c_SF_undo : Cond.code Y_SF_undo.1 Y_SF_undo.2.1 Y_SF_undo.2.2.1 Y_SF_undo.2.2.2.1 ∈ zWd := zin 861 (by decide +kernel) rfl
theorem lk_SF_undo : zlk Y_SF_undo 0 := ⟨w_c_SF_undo, w_ini_SF, by decide +kernel, by decide +kernel, by decide⟩
theorem w_ml_LW_68 : Cond.methodLink "SirenFairLaw" 68 Y_SF_undo.1 ∈ zWd := zin 858 (by decide +kernel) rfl
theorem w_im_SF_undo : Cond.instanceMethod Y_SF_undo.1 ∈ zWd := zin 859 (by decide +kernel) rfl
theorem w_sel_SF_undo : Cond.selects "SirenFair" Y_SF_undo.1 Y_SF_undo.1 ∈ zWd := zin 860 (by decide +kernel) rfl
theorem lkV_LW_68 : zlkV "SirenFairLaw" 68 Y_SF_undo 0 := ⟨lk_SF_undo, w_ml_LW_68, w_im_SF_undo, w_sel_SF_undo⟩
theorem ct_LW_undo_1 : zcatch Y_LW_undo 3 "java/lang/IllegalStateException" 11 := ⟨[], ⟨0, 8, 11, 15⟩, [], rfl, rfl, by decide, by decide, w_cl_LW_15, w_cast_IllegalStateException, fun y hy => nomatch hy⟩
def Y_LW_sirenIn : zY := (⟨"SirenFairLaw", "sirenIn", "(LSirenFair;III[J)I"⟩, method_19_code, 6, some .int, [(0, 12, 15, 28), (0, 12, 19, 13)])
theorem w_c_SF_sirenIn : Cond.code Y_SF_sirenIn.1 Y_SF_sirenIn.2.1 Y_SF_sirenIn.2.2.1 Y_SF_sirenIn.2.2.2.1 ∈ zWd := zin 869 (by decide +kernel) rfl
theorem lk_SF_sirenIn : zlk Y_SF_sirenIn 3 := ⟨w_c_SF_sirenIn, w_ini_SF, by decide +kernel, by decide +kernel, by decide⟩
theorem w_ml_LW_71 : Cond.methodLink "SirenFairLaw" 71 Y_SF_sirenIn.1 ∈ zWd := zin 866 (by decide +kernel) rfl
theorem w_im_SF_sirenIn : Cond.instanceMethod Y_SF_sirenIn.1 ∈ zWd := zin 867 (by decide +kernel) rfl
theorem w_sel_SF_sirenIn : Cond.selects "SirenFair" Y_SF_sirenIn.1 Y_SF_sirenIn.1 ∈ zWd := zin 868 (by decide +kernel) rfl
theorem lkV_LW_71 : zlkV "SirenFairLaw" 71 Y_SF_sirenIn 3 := ⟨lk_SF_sirenIn, w_ml_LW_71, w_im_SF_sirenIn, w_sel_SF_sirenIn⟩
theorem ct_LW_sirenIn_1 : zcatch Y_LW_sirenIn 7 "java/lang/IndexOutOfBoundsException" 15 := ⟨[], ⟨0, 12, 15, 28⟩, [⟨0, 12, 19, 13⟩], rfl, rfl, by decide, by decide, w_cl_LW_28, w_cast_IndexOutOfBoundsException, fun y hy => nomatch hy⟩
theorem ct_LW_sirenIn_2 : zcatch Y_LW_sirenIn 7 "java/lang/IllegalArgumentException" 19 := ⟨[⟨0, 12, 15, 28⟩], ⟨0, 12, 19, 13⟩, [], rfl, rfl, by decide, by decide, w_cl_LW_13, w_cast_IllegalArgumentException, fun y hy => by rcases List.mem_singleton.mp hy with rfl; exact ⟨by decide, "java/lang/IndexOutOfBoundsException", w_cl_LW_28, by decide⟩⟩
def Y_LW_heardIn : zY := (⟨"SirenFairLaw", "heardIn", "(LSirenFair;II[J)I"⟩, method_20_code, 5, some .int, [(0, 10, 13, 28)])
theorem w_c_SF_heardIn : Cond.code Y_SF_heardIn.1 Y_SF_heardIn.2.1 Y_SF_heardIn.2.2.1 Y_SF_heardIn.2.2.2.1 ∈ zWd := zin 888 (by decide +kernel) rfl
theorem lk_SF_heardIn : zlk Y_SF_heardIn 2 := ⟨w_c_SF_heardIn, w_ini_SF, by decide +kernel, by decide +kernel, by decide⟩
theorem w_ml_LW_74 : Cond.methodLink "SirenFairLaw" 74 Y_SF_heardIn.1 ∈ zWd := zin 885 (by decide +kernel) rfl
theorem w_im_SF_heardIn : Cond.instanceMethod Y_SF_heardIn.1 ∈ zWd := zin 886 (by decide +kernel) rfl
theorem w_sel_SF_heardIn : Cond.selects "SirenFair" Y_SF_heardIn.1 Y_SF_heardIn.1 ∈ zWd := zin 887 (by decide +kernel) rfl
theorem lkV_LW_74 : zlkV "SirenFairLaw" 74 Y_SF_heardIn 2 := ⟨lk_SF_heardIn, w_ml_LW_74, w_im_SF_heardIn, w_sel_SF_heardIn⟩
theorem ct_LW_heardIn_1 : zcatch Y_LW_heardIn 5 "java/lang/IndexOutOfBoundsException" 13 := ⟨[], ⟨0, 10, 13, 28⟩, [], rfl, rfl, by decide, by decide, w_cl_LW_28, w_cast_IndexOutOfBoundsException, fun y hy => nomatch hy⟩
def Y_LW_leastSpeed : zY := (⟨"SirenFairLaw", "leastSpeed", "(LSirenFair;I[J)I"⟩, method_21_code, 4, some .int, [(0, 9, 12, 13)])
theorem w_c_SF_leastSpeed : Cond.code Y_SF_leastSpeed.1 Y_SF_leastSpeed.2.1 Y_SF_leastSpeed.2.2.1 Y_SF_leastSpeed.2.2.2.1 ∈ zWd := zin 895 (by decide +kernel) rfl
theorem lk_SF_leastSpeed : zlk Y_SF_leastSpeed 1 := ⟨w_c_SF_leastSpeed, w_ini_SF, by decide +kernel, by decide +kernel, by decide⟩
theorem w_ml_LW_77 : Cond.methodLink "SirenFairLaw" 77 Y_SF_leastSpeed.1 ∈ zWd := zin 892 (by decide +kernel) rfl
theorem w_im_SF_leastSpeed : Cond.instanceMethod Y_SF_leastSpeed.1 ∈ zWd := zin 893 (by decide +kernel) rfl
theorem w_sel_SF_leastSpeed : Cond.selects "SirenFair" Y_SF_leastSpeed.1 Y_SF_leastSpeed.1 ∈ zWd := zin 894 (by decide +kernel) rfl
theorem lkV_LW_77 : zlkV "SirenFairLaw" 77 Y_SF_leastSpeed 1 := ⟨lk_SF_leastSpeed, w_ml_LW_77, w_im_SF_leastSpeed, w_sel_SF_leastSpeed⟩
theorem ct_LW_leastSpeed_1 : zcatch Y_LW_leastSpeed 4 "java/lang/IllegalArgumentException" 12 := ⟨[], ⟨0, 9, 12, 13⟩, [], rfl, rfl, by decide, by decide, w_cl_LW_13, w_cast_IllegalArgumentException, fun y hy => nomatch hy⟩
def Y_LW_runScript : zY := (⟨"SirenFairLaw", "runScript", "(LSirenFair;IJ[J)I"⟩, method_22_code, 6, some .int, [(0, 11, 14, 13)])
theorem w_c_SF_runScript : Cond.code Y_SF_runScript.1 Y_SF_runScript.2.1 Y_SF_runScript.2.2.1 Y_SF_runScript.2.2.2.1 ∈ zWd := zin 906 (by decide +kernel) rfl
theorem lk_SF_runScript : zlk Y_SF_runScript 2 := ⟨w_c_SF_runScript, w_ini_SF, by decide +kernel, by decide +kernel, by decide⟩
theorem w_ml_LW_80 : Cond.methodLink "SirenFairLaw" 80 Y_SF_runScript.1 ∈ zWd := zin 903 (by decide +kernel) rfl
theorem w_im_SF_runScript : Cond.instanceMethod Y_SF_runScript.1 ∈ zWd := zin 904 (by decide +kernel) rfl
theorem w_sel_SF_runScript : Cond.selects "SirenFair" Y_SF_runScript.1 Y_SF_runScript.1 ∈ zWd := zin 905 (by decide +kernel) rfl
theorem lkV_LW_80 : zlkV "SirenFairLaw" 80 Y_SF_runScript 2 := ⟨lk_SF_runScript, w_ml_LW_80, w_im_SF_runScript, w_sel_SF_runScript⟩
theorem ct_LW_runScript_1 : zcatch Y_LW_runScript 6 "java/lang/IllegalArgumentException" 14 := ⟨[], ⟨0, 11, 14, 13⟩, [], rfl, rfl, by decide, by decide, w_cl_LW_13, w_cast_IllegalArgumentException, fun y hy => nomatch hy⟩
def Y_LW_simulate : zY := (⟨"SirenFairLaw", "simulate", "(LSirenFair;JI[J)I"⟩, method_23_code, 6, some .int, [(0, 11, 14, 13)])
theorem w_c_SF_simulate : Cond.code Y_SF_simulate.1 Y_SF_simulate.2.1 Y_SF_simulate.2.2.1 Y_SF_simulate.2.2.2.1 ∈ zWd := zin 920 (by decide +kernel) rfl
theorem lk_SF_simulate : zlk Y_SF_simulate 2 := ⟨w_c_SF_simulate, w_ini_SF, by decide +kernel, by decide +kernel, by decide⟩
theorem w_ml_LW_84 : Cond.methodLink "SirenFairLaw" 84 Y_SF_simulate.1 ∈ zWd := zin 917 (by decide +kernel) rfl
theorem w_im_SF_simulate : Cond.instanceMethod Y_SF_simulate.1 ∈ zWd := zin 918 (by decide +kernel) rfl
theorem w_sel_SF_simulate : Cond.selects "SirenFair" Y_SF_simulate.1 Y_SF_simulate.1 ∈ zWd := zin 919 (by decide +kernel) rfl
theorem lkV_LW_84 : zlkV "SirenFairLaw" 84 Y_SF_simulate 2 := ⟨lk_SF_simulate, w_ml_LW_84, w_im_SF_simulate, w_sel_SF_simulate⟩
theorem ct_LW_simulate_1 : zcatch Y_LW_simulate 6 "java/lang/IllegalArgumentException" 14 := ⟨[], ⟨0, 11, 14, 13⟩, [], rfl, rfl, by decide, by decide, w_cl_LW_13, w_cast_IllegalArgumentException, fun y hy => nomatch hy⟩
def Y_LW_save : zY := (⟨"SirenFairLaw", "save", "(LSirenFair;I[J)I"⟩, method_24_code, 4, some .int, [(0, 9, 12, 28)])
theorem w_c_SF_save : Cond.code Y_SF_save.1 Y_SF_save.2.1 Y_SF_save.2.2.1 Y_SF_save.2.2.2.1 ∈ zWd := zin 936 (by decide +kernel) rfl
theorem lk_SF_save : zlk Y_SF_save 1 := ⟨w_c_SF_save, w_ini_SF, by decide +kernel, by decide +kernel, by decide⟩
theorem w_ml_LW_88 : Cond.methodLink "SirenFairLaw" 88 Y_SF_save.1 ∈ zWd := zin 933 (by decide +kernel) rfl
theorem w_im_SF_save : Cond.instanceMethod Y_SF_save.1 ∈ zWd := zin 934 (by decide +kernel) rfl
theorem w_sel_SF_save : Cond.selects "SirenFair" Y_SF_save.1 Y_SF_save.1 ∈ zWd := zin 935 (by decide +kernel) rfl
theorem lkV_LW_88 : zlkV "SirenFairLaw" 88 Y_SF_save 1 := ⟨lk_SF_save, w_ml_LW_88, w_im_SF_save, w_sel_SF_save⟩
theorem ct_LW_save_1 : zcatch Y_LW_save 4 "java/lang/IndexOutOfBoundsException" 12 := ⟨[], ⟨0, 9, 12, 28⟩, [], rfl, rfl, by decide, by decide, w_cl_LW_28, w_cast_IndexOutOfBoundsException, fun y hy => nomatch hy⟩
def Y_LW_restore : zY := (⟨"SirenFairLaw", "restore", "(LSirenFair;I[J)I"⟩, method_25_code, 4, some .int, [(0, 9, 12, 28), (0, 9, 15, 15)])
theorem w_c_SF_restore : Cond.code Y_SF_restore.1 Y_SF_restore.2.1 Y_SF_restore.2.2.1 Y_SF_restore.2.2.2.1 ∈ zWd := zin 944 (by decide +kernel) rfl
theorem lk_SF_restore : zlk Y_SF_restore 1 := ⟨w_c_SF_restore, w_ini_SF, by decide +kernel, by decide +kernel, by decide⟩
theorem w_ml_LW_91 : Cond.methodLink "SirenFairLaw" 91 Y_SF_restore.1 ∈ zWd := zin 941 (by decide +kernel) rfl
theorem w_im_SF_restore : Cond.instanceMethod Y_SF_restore.1 ∈ zWd := zin 942 (by decide +kernel) rfl
theorem w_sel_SF_restore : Cond.selects "SirenFair" Y_SF_restore.1 Y_SF_restore.1 ∈ zWd := zin 943 (by decide +kernel) rfl
theorem lkV_LW_91 : zlkV "SirenFairLaw" 91 Y_SF_restore 1 := ⟨lk_SF_restore, w_ml_LW_91, w_im_SF_restore, w_sel_SF_restore⟩
theorem ct_LW_restore_1 : zcatch Y_LW_restore 4 "java/lang/IndexOutOfBoundsException" 12 := ⟨[], ⟨0, 9, 12, 28⟩, [⟨0, 9, 15, 15⟩], rfl, rfl, by decide, by decide, w_cl_LW_28, w_cast_IndexOutOfBoundsException, fun y hy => nomatch hy⟩
theorem ct_LW_restore_2 : zcatch Y_LW_restore 4 "java/lang/IllegalStateException" 15 := ⟨[⟨0, 9, 12, 28⟩], ⟨0, 9, 15, 15⟩, [], rfl, rfl, by decide, by decide, w_cl_LW_15, w_cast_IllegalStateException, fun y hy => by rcases List.mem_singleton.mp hy with rfl; exact ⟨by decide, "java/lang/IndexOutOfBoundsException", w_cl_LW_28, by decide⟩⟩
theorem d_LW_append_0 : decode Y_LW_append.2.1 0 = .ok (.aload_n 2, 1) := by decide +kernel
theorem d_LW_append_1 : decode Y_LW_append.2.1 1 = .ok (.iconst (0), 1) := by decide +kernel
theorem d_LW_append_2 : decode Y_LW_append.2.1 2 = .ok (.aload_n 0, 1) := by decide +kernel
theorem d_LW_append_3 : decode Y_LW_append.2.1 3 = .ok (.iload_n 1, 1) := by decide +kernel
theorem d_LW_append_4 : decode Y_LW_append.2.1 4 = .ok (.invokevirtual 7, 3) := by decide +kernel
theorem d_LW_append_7 : decode Y_LW_append.2.1 7 = .ok (.i2l, 1) := by decide +kernel
theorem d_LW_append_8 : decode Y_LW_append.2.1 8 = .ok (.lastore, 1) := by decide +kernel
theorem d_LW_append_9 : decode Y_LW_append.2.1 9 = .ok (.goto (9), 3) := by decide +kernel
theorem d_LW_append_12 : decode Y_LW_append.2.1 12 = .ok (.astore_n 3, 1) := by decide +kernel
theorem d_LW_append_13 : decode Y_LW_append.2.1 13 = .ok (.iconst (1), 1) := by decide +kernel
theorem d_LW_append_14 : decode Y_LW_append.2.1 14 = .ok (.ireturn, 1) := by decide +kernel
theorem d_LW_append_15 : decode Y_LW_append.2.1 15 = .ok (.astore_n 3, 1) := by decide +kernel
theorem d_LW_append_16 : decode Y_LW_append.2.1 16 = .ok (.iconst (2), 1) := by decide +kernel
theorem d_LW_append_17 : decode Y_LW_append.2.1 17 = .ok (.ireturn, 1) := by decide +kernel
theorem d_LW_append_18 : decode Y_LW_append.2.1 18 = .ok (.iconst (0), 1) := by decide +kernel
theorem d_LW_append_19 : decode Y_LW_append.2.1 19 = .ok (.ireturn, 1) := by decide +kernel
def f_LW_append (w : zW) (D : zD) (r0 : Nat) (x1 : Int32) (r2 : Nat) : Option (Int32 × zW × zD) := zobj w 0 r0 (zcx (f_SF_append w D r0 x1) (fun r D1 => Sum.elim (fun v => zastL w r2 (0 : Int32) v.toInt64 (fun w1 => some ((0 : Int32), w1, D1))) (fun E => zhs2 E "java/lang/IllegalArgumentException" "java/lang/IllegalStateException" (some ((1 : Int32), w, D1)) (some ((2 : Int32), w, D1))) r))
set_option maxHeartbeats 4000000 in
theorem c_LW_append (z : zT) (D : zD) (r0 : Nat) (x1 : Int32) (r2 : Nat) : zMH Y_LW_append 9 1 6 (zqH z) (f_LW_append z.2 D r0 x1 r2) [.ref r0, .int x1, .ref r2] z D := by
  refine zMH_of (by decide +kernel) (Nat.le_of_ble_eq_true rfl) (fun _ _ _ _ h => nomatch h.1) (fun K => ?_)
  unfold f_LW_append
  refine z_aload_n (pc := 0) d_LW_append_0 rfl 2 rfl ?_
  refine z_iconst (pc := 1) d_LW_append_1 ki_0 ?_
  refine z_aload_n (pc := 2) d_LW_append_2 rfl 0 rfl ?_
  refine z_iload_n (pc := 3) d_LW_append_3 rfl 1 rfl ?_
  refine z_callX2 (pc := 4) (kc2 := 0) (ks2 := 0) [.int x1] lkV_LW_7 rfl (c_SF_append z D r0 x1) (by decide) (by decide) (by decide) rfl rfl (Nat.le_of_ble_eq_true rfl) d_LW_append_4 ct_LW_append_1 ct_LW_append_2 (fun v D1 z1 e1 t1 => ?_) (fun D1 z1 q1 e1 t1 => ?_) (fun D1 z1 q1 e1 t1 => ?_)
  · rw [← e1]
    refine z_i2l (pc := 7) d_LW_append_7 ?_
    refine z_lastore (pc := 8) d_LW_append_8 (fun z2 h2 => ?_)
    refine z_goto (pc := 9) (tgt := 18) d_LW_append_9 (by decide) ?_
    refine z_iconst (pc := 18) d_LW_append_18 ki_0 ?_
    exact z_hret (pc := 19) (by omega) d_LW_append_19 rfl
  · rw [← e1]
    refine z_astore_n (pc := 12) d_LW_append_12 rfl (by decide) (lv' := [(3, .ref q1), (0, .ref r0), (1, .int x1), (2, .ref r2)]) rfl ?_
    refine z_iconst (pc := 13) d_LW_append_13 ki_1 ?_
    exact z_hret (pc := 14) t1 d_LW_append_14 rfl
  · rw [← e1]
    refine z_astore_n (pc := 15) d_LW_append_15 rfl (by decide) (lv' := [(3, .ref q1), (0, .ref r0), (1, .int x1), (2, .ref r2)]) rfl ?_
    refine z_iconst (pc := 16) d_LW_append_16 ki_2 ?_
    exact z_hret (pc := 17) t1 d_LW_append_17 rfl
theorem d_LW_load_0 : decode Y_LW_load.2.1 0 = .ok (.aload_n 1, 1) := by decide +kernel
theorem d_LW_load_1 : decode Y_LW_load.2.1 1 = .ok (.iconst (0), 1) := by decide +kernel
theorem d_LW_load_2 : decode Y_LW_load.2.1 2 = .ok (.aload_n 0, 1) := by decide +kernel
theorem d_LW_load_3 : decode Y_LW_load.2.1 3 = .ok (.invokevirtual 17, 3) := by decide +kernel
theorem d_LW_load_6 : decode Y_LW_load.2.1 6 = .ok (.i2l, 1) := by decide +kernel
theorem d_LW_load_7 : decode Y_LW_load.2.1 7 = .ok (.lastore, 1) := by decide +kernel
theorem d_LW_load_8 : decode Y_LW_load.2.1 8 = .ok (.goto (6), 3) := by decide +kernel
theorem d_LW_load_11 : decode Y_LW_load.2.1 11 = .ok (.astore_n 2, 1) := by decide +kernel
theorem d_LW_load_12 : decode Y_LW_load.2.1 12 = .ok (.iconst (1), 1) := by decide +kernel
theorem d_LW_load_13 : decode Y_LW_load.2.1 13 = .ok (.ireturn, 1) := by decide +kernel
theorem d_LW_load_14 : decode Y_LW_load.2.1 14 = .ok (.iconst (0), 1) := by decide +kernel
theorem d_LW_load_15 : decode Y_LW_load.2.1 15 = .ok (.ireturn, 1) := by decide +kernel
def f_LW_load (w : zW) (D : zD) (r0 : Nat) (r1 : Nat) : Option (Int32 × zW × zD) := zobj w 0 r0 (zcx (f_SF_load w D r0 ) (fun r D1 => Sum.elim (fun v => zastL w r1 (0 : Int32) v.toInt64 (fun w1 => some ((0 : Int32), w1, D1))) (fun E => zhs1 E "java/lang/IllegalStateException" (some ((1 : Int32), w, D1))) r))
set_option maxHeartbeats 4000000 in
theorem c_LW_load (z : zT) (D : zD) (r0 : Nat) (r1 : Nat) : zMH Y_LW_load 9 1 6 (zqH z) (f_LW_load z.2 D r0 r1) [.ref r0, .ref r1] z D := by
  refine zMH_of (by decide +kernel) (Nat.le_of_ble_eq_true rfl) (fun _ _ _ _ h => nomatch h.1) (fun K => ?_)
  unfold f_LW_load
  refine z_aload_n (pc := 0) d_LW_load_0 rfl 1 rfl ?_
  refine z_iconst (pc := 1) d_LW_load_1 ki_0 ?_
  refine z_aload_n (pc := 2) d_LW_load_2 rfl 0 rfl ?_
  refine z_callX1 (pc := 3) (kc2 := 0) (ks2 := 0) [] lkV_LW_17 rfl (c_SF_load z D r0 ) (by decide) (by decide) (by decide) rfl rfl (Nat.le_of_ble_eq_true rfl) d_LW_load_3 ct_LW_load_1 (fun v D1 z1 e1 t1 => ?_) (fun D1 z1 q1 e1 t1 => ?_)
  · rw [← e1]
    refine z_i2l (pc := 6) d_LW_load_6 ?_
    refine z_lastore (pc := 7) d_LW_load_7 (fun z2 h2 => ?_)
    refine z_goto (pc := 8) (tgt := 14) d_LW_load_8 (by decide) ?_
    refine z_iconst (pc := 14) d_LW_load_14 ki_0 ?_
    exact z_hret (pc := 15) (by omega) d_LW_load_15 rfl
  · rw [← e1]
    refine z_astore_n (pc := 11) d_LW_load_11 rfl (by decide) (lv' := [(2, .ref q1), (0, .ref r0), (1, .ref r1)]) rfl ?_
    refine z_iconst (pc := 12) d_LW_load_12 ki_1 ?_
    exact z_hret (pc := 13) t1 d_LW_load_13 rfl
theorem d_LW_about_0 : decode Y_LW_about.2.1 0 = .ok (.aload_n 2, 1) := by decide +kernel
theorem d_LW_about_1 : decode Y_LW_about.2.1 1 = .ok (.iconst (0), 1) := by decide +kernel
theorem d_LW_about_2 : decode Y_LW_about.2.1 2 = .ok (.aload_n 0, 1) := by decide +kernel
theorem d_LW_about_3 : decode Y_LW_about.2.1 3 = .ok (.iload_n 1, 1) := by decide +kernel
theorem d_LW_about_4 : decode Y_LW_about.2.1 4 = .ok (.invokevirtual 21, 3) := by decide +kernel
theorem d_LW_about_7 : decode Y_LW_about.2.1 7 = .ok (.i2l, 1) := by decide +kernel
theorem d_LW_about_8 : decode Y_LW_about.2.1 8 = .ok (.lastore, 1) := by decide +kernel
theorem d_LW_about_9 : decode Y_LW_about.2.1 9 = .ok (.goto (6), 3) := by decide +kernel
theorem d_LW_about_12 : decode Y_LW_about.2.1 12 = .ok (.astore_n 3, 1) := by decide +kernel
theorem d_LW_about_13 : decode Y_LW_about.2.1 13 = .ok (.iconst (1), 1) := by decide +kernel
theorem d_LW_about_14 : decode Y_LW_about.2.1 14 = .ok (.ireturn, 1) := by decide +kernel
theorem d_LW_about_15 : decode Y_LW_about.2.1 15 = .ok (.iconst (0), 1) := by decide +kernel
theorem d_LW_about_16 : decode Y_LW_about.2.1 16 = .ok (.ireturn, 1) := by decide +kernel
def f_LW_about (w : zW) (D : zD) (r0 : Nat) (x1 : Int32) (r2 : Nat) : Option (Int32 × zW × zD) := zobj w 0 r0 (zcx (f_SF_about w D r0 x1) (fun r D1 => Sum.elim (fun v => zastL w r2 (0 : Int32) v.toInt64 (fun w1 => some ((0 : Int32), w1, D1))) (fun E => zhs1 E "java/lang/IllegalArgumentException" (some ((1 : Int32), w, D1))) r))
set_option maxHeartbeats 4000000 in
theorem c_LW_about (z : zT) (D : zD) (r0 : Nat) (x1 : Int32) (r2 : Nat) : zMH Y_LW_about 9 1 6 (zqH z) (f_LW_about z.2 D r0 x1 r2) [.ref r0, .int x1, .ref r2] z D := by
  refine zMH_of (by decide +kernel) (Nat.le_of_ble_eq_true rfl) (fun _ _ _ _ h => nomatch h.1) (fun K => ?_)
  unfold f_LW_about
  refine z_aload_n (pc := 0) d_LW_about_0 rfl 2 rfl ?_
  refine z_iconst (pc := 1) d_LW_about_1 ki_0 ?_
  refine z_aload_n (pc := 2) d_LW_about_2 rfl 0 rfl ?_
  refine z_iload_n (pc := 3) d_LW_about_3 rfl 1 rfl ?_
  refine z_callX1 (pc := 4) (kc2 := 0) (ks2 := 0) [.int x1] lkV_LW_21 rfl (c_SF_about z D r0 x1) (by decide) (by decide) (by decide) rfl rfl (Nat.le_of_ble_eq_true rfl) d_LW_about_4 ct_LW_about_1 (fun v D1 z1 e1 t1 => ?_) (fun D1 z1 q1 e1 t1 => ?_)
  · rw [← e1]
    refine z_i2l (pc := 7) d_LW_about_7 ?_
    refine z_lastore (pc := 8) d_LW_about_8 (fun z2 h2 => ?_)
    refine z_goto (pc := 9) (tgt := 15) d_LW_about_9 (by decide) ?_
    refine z_iconst (pc := 15) d_LW_about_15 ki_0 ?_
    exact z_hret (pc := 16) (by omega) d_LW_about_16 rfl
  · rw [← e1]
    refine z_astore_n (pc := 12) d_LW_about_12 rfl (by decide) (lv' := [(3, .ref q1), (0, .ref r0), (1, .int x1), (2, .ref r2)]) rfl ?_
    refine z_iconst (pc := 13) d_LW_about_13 ki_1 ?_
    exact z_hret (pc := 14) t1 d_LW_about_14 rfl
theorem d_LW_sirenOf_0 : decode Y_LW_sirenOf.2.1 0 = .ok (.aload_n 3, 1) := by decide +kernel
theorem d_LW_sirenOf_1 : decode Y_LW_sirenOf.2.1 1 = .ok (.iconst (0), 1) := by decide +kernel
theorem d_LW_sirenOf_2 : decode Y_LW_sirenOf.2.1 2 = .ok (.aload_n 0, 1) := by decide +kernel
theorem d_LW_sirenOf_3 : decode Y_LW_sirenOf.2.1 3 = .ok (.iload_n 1, 1) := by decide +kernel
theorem d_LW_sirenOf_4 : decode Y_LW_sirenOf.2.1 4 = .ok (.iload_n 2, 1) := by decide +kernel
theorem d_LW_sirenOf_5 : decode Y_LW_sirenOf.2.1 5 = .ok (.invokevirtual 24, 3) := by decide +kernel
theorem d_LW_sirenOf_8 : decode Y_LW_sirenOf.2.1 8 = .ok (.i2l, 1) := by decide +kernel
theorem d_LW_sirenOf_9 : decode Y_LW_sirenOf.2.1 9 = .ok (.lastore, 1) := by decide +kernel
theorem d_LW_sirenOf_10 : decode Y_LW_sirenOf.2.1 10 = .ok (.goto (11), 3) := by decide +kernel
theorem d_LW_sirenOf_13 : decode Y_LW_sirenOf.2.1 13 = .ok (.astore 4, 2) := by decide +kernel
theorem d_LW_sirenOf_15 : decode Y_LW_sirenOf.2.1 15 = .ok (.iconst (1), 1) := by decide +kernel
theorem d_LW_sirenOf_16 : decode Y_LW_sirenOf.2.1 16 = .ok (.ireturn, 1) := by decide +kernel
theorem d_LW_sirenOf_17 : decode Y_LW_sirenOf.2.1 17 = .ok (.astore 4, 2) := by decide +kernel
theorem d_LW_sirenOf_19 : decode Y_LW_sirenOf.2.1 19 = .ok (.iconst (2), 1) := by decide +kernel
theorem d_LW_sirenOf_20 : decode Y_LW_sirenOf.2.1 20 = .ok (.ireturn, 1) := by decide +kernel
theorem d_LW_sirenOf_21 : decode Y_LW_sirenOf.2.1 21 = .ok (.iconst (0), 1) := by decide +kernel
theorem d_LW_sirenOf_22 : decode Y_LW_sirenOf.2.1 22 = .ok (.ireturn, 1) := by decide +kernel
def f_LW_sirenOf (w : zW) (D : zD) (r0 : Nat) (x1 : Int32) (x2 : Int32) (r3 : Nat) : Option (Int32 × zW × zD) := zobj w 0 r0 (zcx (f_SF_sirenOf w D r0 x1 x2) (fun r D1 => Sum.elim (fun v => zastL w r3 (0 : Int32) v.toInt64 (fun w1 => some ((0 : Int32), w1, D1))) (fun E => zhs2 E "java/lang/IndexOutOfBoundsException" "java/lang/IllegalArgumentException" (some ((1 : Int32), w, D1)) (some ((2 : Int32), w, D1))) r))
set_option maxHeartbeats 4000000 in
theorem c_LW_sirenOf (z : zT) (D : zD) (r0 : Nat) (x1 : Int32) (x2 : Int32) (r3 : Nat) : zMH Y_LW_sirenOf 9 1 6 (zqH z) (f_LW_sirenOf z.2 D r0 x1 x2 r3) [.ref r0, .int x1, .int x2, .ref r3] z D := by
  refine zMH_of (by decide +kernel) (Nat.le_of_ble_eq_true rfl) (fun _ _ _ _ h => nomatch h.1) (fun K => ?_)
  unfold f_LW_sirenOf
  refine z_aload_n (pc := 0) d_LW_sirenOf_0 rfl 3 rfl ?_
  refine z_iconst (pc := 1) d_LW_sirenOf_1 ki_0 ?_
  refine z_aload_n (pc := 2) d_LW_sirenOf_2 rfl 0 rfl ?_
  refine z_iload_n (pc := 3) d_LW_sirenOf_3 rfl 1 rfl ?_
  refine z_iload_n (pc := 4) d_LW_sirenOf_4 rfl 2 rfl ?_
  refine z_callX2 (pc := 5) (kc2 := 0) (ks2 := 0) [.int x1, .int x2] lkV_LW_24 rfl (c_SF_sirenOf z D r0 x1 x2) (by decide) (by decide) (by decide) rfl rfl (Nat.le_of_ble_eq_true rfl) d_LW_sirenOf_5 ct_LW_sirenOf_1 ct_LW_sirenOf_2 (fun v D1 z1 e1 t1 => ?_) (fun D1 z1 q1 e1 t1 => ?_) (fun D1 z1 q1 e1 t1 => ?_)
  · rw [← e1]
    refine z_i2l (pc := 8) d_LW_sirenOf_8 ?_
    refine z_lastore (pc := 9) d_LW_sirenOf_9 (fun z2 h2 => ?_)
    refine z_goto (pc := 10) (tgt := 21) d_LW_sirenOf_10 (by decide) ?_
    refine z_iconst (pc := 21) d_LW_sirenOf_21 ki_0 ?_
    exact z_hret (pc := 22) (by omega) d_LW_sirenOf_22 rfl
  · rw [← e1]
    refine z_astore (pc := 13) d_LW_sirenOf_13 (by decide) (lv' := [(4, .ref q1), (0, .ref r0), (1, .int x1), (2, .int x2), (3, .ref r3)]) rfl ?_
    refine z_iconst (pc := 15) d_LW_sirenOf_15 ki_1 ?_
    exact z_hret (pc := 16) t1 d_LW_sirenOf_16 rfl
  · rw [← e1]
    refine z_astore (pc := 17) d_LW_sirenOf_17 (by decide) (lv' := [(4, .ref q1), (0, .ref r0), (1, .int x1), (2, .int x2), (3, .ref r3)]) rfl ?_
    refine z_iconst (pc := 19) d_LW_sirenOf_19 ki_2 ?_
    exact z_hret (pc := 20) t1 d_LW_sirenOf_20 rfl
theorem d_LW_hearerOf_0 : decode Y_LW_hearerOf.2.1 0 = .ok (.aload_n 3, 1) := by decide +kernel
theorem d_LW_hearerOf_1 : decode Y_LW_hearerOf.2.1 1 = .ok (.iconst (0), 1) := by decide +kernel
theorem d_LW_hearerOf_2 : decode Y_LW_hearerOf.2.1 2 = .ok (.aload_n 0, 1) := by decide +kernel
theorem d_LW_hearerOf_3 : decode Y_LW_hearerOf.2.1 3 = .ok (.iload_n 1, 1) := by decide +kernel
theorem d_LW_hearerOf_4 : decode Y_LW_hearerOf.2.1 4 = .ok (.iload_n 2, 1) := by decide +kernel
theorem d_LW_hearerOf_5 : decode Y_LW_hearerOf.2.1 5 = .ok (.invokevirtual 30, 3) := by decide +kernel
theorem d_LW_hearerOf_8 : decode Y_LW_hearerOf.2.1 8 = .ok (.i2l, 1) := by decide +kernel
theorem d_LW_hearerOf_9 : decode Y_LW_hearerOf.2.1 9 = .ok (.lastore, 1) := by decide +kernel
theorem d_LW_hearerOf_10 : decode Y_LW_hearerOf.2.1 10 = .ok (.goto (11), 3) := by decide +kernel
theorem d_LW_hearerOf_13 : decode Y_LW_hearerOf.2.1 13 = .ok (.astore 4, 2) := by decide +kernel
theorem d_LW_hearerOf_15 : decode Y_LW_hearerOf.2.1 15 = .ok (.iconst (1), 1) := by decide +kernel
theorem d_LW_hearerOf_16 : decode Y_LW_hearerOf.2.1 16 = .ok (.ireturn, 1) := by decide +kernel
theorem d_LW_hearerOf_17 : decode Y_LW_hearerOf.2.1 17 = .ok (.astore 4, 2) := by decide +kernel
theorem d_LW_hearerOf_19 : decode Y_LW_hearerOf.2.1 19 = .ok (.iconst (2), 1) := by decide +kernel
theorem d_LW_hearerOf_20 : decode Y_LW_hearerOf.2.1 20 = .ok (.ireturn, 1) := by decide +kernel
theorem d_LW_hearerOf_21 : decode Y_LW_hearerOf.2.1 21 = .ok (.iconst (0), 1) := by decide +kernel
theorem d_LW_hearerOf_22 : decode Y_LW_hearerOf.2.1 22 = .ok (.ireturn, 1) := by decide +kernel
def f_LW_hearerOf (w : zW) (D : zD) (r0 : Nat) (x1 : Int32) (x2 : Int32) (r3 : Nat) : Option (Int32 × zW × zD) := zobj w 0 r0 (zcx (f_SF_hearerOf w D r0 x1 x2) (fun r D1 => Sum.elim (fun v => zastL w r3 (0 : Int32) v.toInt64 (fun w1 => some ((0 : Int32), w1, D1))) (fun E => zhs2 E "java/lang/IndexOutOfBoundsException" "java/lang/IllegalArgumentException" (some ((1 : Int32), w, D1)) (some ((2 : Int32), w, D1))) r))
set_option maxHeartbeats 4000000 in
theorem c_LW_hearerOf (z : zT) (D : zD) (r0 : Nat) (x1 : Int32) (x2 : Int32) (r3 : Nat) : zMH Y_LW_hearerOf 9 1 6 (zqH z) (f_LW_hearerOf z.2 D r0 x1 x2 r3) [.ref r0, .int x1, .int x2, .ref r3] z D := by
  refine zMH_of (by decide +kernel) (Nat.le_of_ble_eq_true rfl) (fun _ _ _ _ h => nomatch h.1) (fun K => ?_)
  unfold f_LW_hearerOf
  refine z_aload_n (pc := 0) d_LW_hearerOf_0 rfl 3 rfl ?_
  refine z_iconst (pc := 1) d_LW_hearerOf_1 ki_0 ?_
  refine z_aload_n (pc := 2) d_LW_hearerOf_2 rfl 0 rfl ?_
  refine z_iload_n (pc := 3) d_LW_hearerOf_3 rfl 1 rfl ?_
  refine z_iload_n (pc := 4) d_LW_hearerOf_4 rfl 2 rfl ?_
  refine z_callX2 (pc := 5) (kc2 := 0) (ks2 := 0) [.int x1, .int x2] lkV_LW_30 rfl (c_SF_hearerOf z D r0 x1 x2) (by decide) (by decide) (by decide) rfl rfl (Nat.le_of_ble_eq_true rfl) d_LW_hearerOf_5 ct_LW_hearerOf_1 ct_LW_hearerOf_2 (fun v D1 z1 e1 t1 => ?_) (fun D1 z1 q1 e1 t1 => ?_) (fun D1 z1 q1 e1 t1 => ?_)
  · rw [← e1]
    refine z_i2l (pc := 8) d_LW_hearerOf_8 ?_
    refine z_lastore (pc := 9) d_LW_hearerOf_9 (fun z2 h2 => ?_)
    refine z_goto (pc := 10) (tgt := 21) d_LW_hearerOf_10 (by decide) ?_
    refine z_iconst (pc := 21) d_LW_hearerOf_21 ki_0 ?_
    exact z_hret (pc := 22) (by omega) d_LW_hearerOf_22 rfl
  · rw [← e1]
    refine z_astore (pc := 13) d_LW_hearerOf_13 (by decide) (lv' := [(4, .ref q1), (0, .ref r0), (1, .int x1), (2, .int x2), (3, .ref r3)]) rfl ?_
    refine z_iconst (pc := 15) d_LW_hearerOf_15 ki_1 ?_
    exact z_hret (pc := 16) t1 d_LW_hearerOf_16 rfl
  · rw [← e1]
    refine z_astore (pc := 17) d_LW_hearerOf_17 (by decide) (lv' := [(4, .ref q1), (0, .ref r0), (1, .int x1), (2, .int x2), (3, .ref r3)]) rfl ?_
    refine z_iconst (pc := 19) d_LW_hearerOf_19 ki_2 ?_
    exact z_hret (pc := 20) t1 d_LW_hearerOf_20 rfl
theorem d_LW_wallOf_0 : decode Y_LW_wallOf.2.1 0 = .ok (.aload_n 3, 1) := by decide +kernel
theorem d_LW_wallOf_1 : decode Y_LW_wallOf.2.1 1 = .ok (.iconst (0), 1) := by decide +kernel
theorem d_LW_wallOf_2 : decode Y_LW_wallOf.2.1 2 = .ok (.aload_n 0, 1) := by decide +kernel
theorem d_LW_wallOf_3 : decode Y_LW_wallOf.2.1 3 = .ok (.iload_n 1, 1) := by decide +kernel
theorem d_LW_wallOf_4 : decode Y_LW_wallOf.2.1 4 = .ok (.iload_n 2, 1) := by decide +kernel
theorem d_LW_wallOf_5 : decode Y_LW_wallOf.2.1 5 = .ok (.invokevirtual 33, 3) := by decide +kernel
theorem d_LW_wallOf_8 : decode Y_LW_wallOf.2.1 8 = .ok (.i2l, 1) := by decide +kernel
theorem d_LW_wallOf_9 : decode Y_LW_wallOf.2.1 9 = .ok (.lastore, 1) := by decide +kernel
theorem d_LW_wallOf_10 : decode Y_LW_wallOf.2.1 10 = .ok (.goto (11), 3) := by decide +kernel
theorem d_LW_wallOf_13 : decode Y_LW_wallOf.2.1 13 = .ok (.astore 4, 2) := by decide +kernel
theorem d_LW_wallOf_15 : decode Y_LW_wallOf.2.1 15 = .ok (.iconst (1), 1) := by decide +kernel
theorem d_LW_wallOf_16 : decode Y_LW_wallOf.2.1 16 = .ok (.ireturn, 1) := by decide +kernel
theorem d_LW_wallOf_17 : decode Y_LW_wallOf.2.1 17 = .ok (.astore 4, 2) := by decide +kernel
theorem d_LW_wallOf_19 : decode Y_LW_wallOf.2.1 19 = .ok (.iconst (2), 1) := by decide +kernel
theorem d_LW_wallOf_20 : decode Y_LW_wallOf.2.1 20 = .ok (.ireturn, 1) := by decide +kernel
theorem d_LW_wallOf_21 : decode Y_LW_wallOf.2.1 21 = .ok (.iconst (0), 1) := by decide +kernel
theorem d_LW_wallOf_22 : decode Y_LW_wallOf.2.1 22 = .ok (.ireturn, 1) := by decide +kernel
def f_LW_wallOf (w : zW) (D : zD) (r0 : Nat) (x1 : Int32) (x2 : Int32) (r3 : Nat) : Option (Int32 × zW × zD) := zobj w 0 r0 (zcx (f_SF_wallOf w D r0 x1 x2) (fun r D1 => Sum.elim (fun v => zastL w r3 (0 : Int32) v.toInt64 (fun w1 => some ((0 : Int32), w1, D1))) (fun E => zhs2 E "java/lang/IndexOutOfBoundsException" "java/lang/IllegalArgumentException" (some ((1 : Int32), w, D1)) (some ((2 : Int32), w, D1))) r))
set_option maxHeartbeats 4000000 in
theorem c_LW_wallOf (z : zT) (D : zD) (r0 : Nat) (x1 : Int32) (x2 : Int32) (r3 : Nat) : zMH Y_LW_wallOf 9 1 6 (zqH z) (f_LW_wallOf z.2 D r0 x1 x2 r3) [.ref r0, .int x1, .int x2, .ref r3] z D := by
  refine zMH_of (by decide +kernel) (Nat.le_of_ble_eq_true rfl) (fun _ _ _ _ h => nomatch h.1) (fun K => ?_)
  unfold f_LW_wallOf
  refine z_aload_n (pc := 0) d_LW_wallOf_0 rfl 3 rfl ?_
  refine z_iconst (pc := 1) d_LW_wallOf_1 ki_0 ?_
  refine z_aload_n (pc := 2) d_LW_wallOf_2 rfl 0 rfl ?_
  refine z_iload_n (pc := 3) d_LW_wallOf_3 rfl 1 rfl ?_
  refine z_iload_n (pc := 4) d_LW_wallOf_4 rfl 2 rfl ?_
  refine z_callX2 (pc := 5) (kc2 := 0) (ks2 := 0) [.int x1, .int x2] lkV_LW_33 rfl (c_SF_wallOf z D r0 x1 x2) (by decide) (by decide) (by decide) rfl rfl (Nat.le_of_ble_eq_true rfl) d_LW_wallOf_5 ct_LW_wallOf_1 ct_LW_wallOf_2 (fun v D1 z1 e1 t1 => ?_) (fun D1 z1 q1 e1 t1 => ?_) (fun D1 z1 q1 e1 t1 => ?_)
  · rw [← e1]
    refine z_i2l (pc := 8) d_LW_wallOf_8 ?_
    refine z_lastore (pc := 9) d_LW_wallOf_9 (fun z2 h2 => ?_)
    refine z_goto (pc := 10) (tgt := 21) d_LW_wallOf_10 (by decide) ?_
    refine z_iconst (pc := 21) d_LW_wallOf_21 ki_0 ?_
    exact z_hret (pc := 22) (by omega) d_LW_wallOf_22 rfl
  · rw [← e1]
    refine z_astore (pc := 13) d_LW_wallOf_13 (by decide) (lv' := [(4, .ref q1), (0, .ref r0), (1, .int x1), (2, .int x2), (3, .ref r3)]) rfl ?_
    refine z_iconst (pc := 15) d_LW_wallOf_15 ki_1 ?_
    exact z_hret (pc := 16) t1 d_LW_wallOf_16 rfl
  · rw [← e1]
    refine z_astore (pc := 17) d_LW_wallOf_17 (by decide) (lv' := [(4, .ref q1), (0, .ref r0), (1, .int x1), (2, .int x2), (3, .ref r3)]) rfl ?_
    refine z_iconst (pc := 19) d_LW_wallOf_19 ki_2 ?_
    exact z_hret (pc := 20) t1 d_LW_wallOf_20 rfl
theorem d_LW_pulse_0 : decode Y_LW_pulse.2.1 0 = .ok (.aload_n 3, 1) := by decide +kernel
theorem d_LW_pulse_1 : decode Y_LW_pulse.2.1 1 = .ok (.iconst (0), 1) := by decide +kernel
theorem d_LW_pulse_2 : decode Y_LW_pulse.2.1 2 = .ok (.aload_n 0, 1) := by decide +kernel
theorem d_LW_pulse_3 : decode Y_LW_pulse.2.1 3 = .ok (.iload_n 1, 1) := by decide +kernel
theorem d_LW_pulse_4 : decode Y_LW_pulse.2.1 4 = .ok (.iload_n 2, 1) := by decide +kernel
theorem d_LW_pulse_5 : decode Y_LW_pulse.2.1 5 = .ok (.invokevirtual 36, 3) := by decide +kernel
theorem d_LW_pulse_8 : decode Y_LW_pulse.2.1 8 = .ok (.i2l, 1) := by decide +kernel
theorem d_LW_pulse_9 : decode Y_LW_pulse.2.1 9 = .ok (.lastore, 1) := by decide +kernel
theorem d_LW_pulse_10 : decode Y_LW_pulse.2.1 10 = .ok (.goto (11), 3) := by decide +kernel
theorem d_LW_pulse_13 : decode Y_LW_pulse.2.1 13 = .ok (.astore 4, 2) := by decide +kernel
theorem d_LW_pulse_15 : decode Y_LW_pulse.2.1 15 = .ok (.iconst (1), 1) := by decide +kernel
theorem d_LW_pulse_16 : decode Y_LW_pulse.2.1 16 = .ok (.ireturn, 1) := by decide +kernel
theorem d_LW_pulse_17 : decode Y_LW_pulse.2.1 17 = .ok (.astore 4, 2) := by decide +kernel
theorem d_LW_pulse_19 : decode Y_LW_pulse.2.1 19 = .ok (.iconst (2), 1) := by decide +kernel
theorem d_LW_pulse_20 : decode Y_LW_pulse.2.1 20 = .ok (.ireturn, 1) := by decide +kernel
theorem d_LW_pulse_21 : decode Y_LW_pulse.2.1 21 = .ok (.iconst (0), 1) := by decide +kernel
theorem d_LW_pulse_22 : decode Y_LW_pulse.2.1 22 = .ok (.ireturn, 1) := by decide +kernel
def f_LW_pulse (w : zW) (D : zD) (r0 : Nat) (x1 : Int32) (x2 : Int32) (r3 : Nat) : Option (Int32 × zW × zD) := zobj w 0 r0 (zcx (f_SF_pulse w D r0 x1 x2) (fun r D1 => Sum.elim (fun v => zastL w r3 (0 : Int32) v.toInt64 (fun w1 => some ((0 : Int32), w1, D1))) (fun E => zhs2 E "java/lang/IndexOutOfBoundsException" "java/lang/IllegalArgumentException" (some ((1 : Int32), w, D1)) (some ((2 : Int32), w, D1))) r))
set_option maxHeartbeats 4000000 in
theorem c_LW_pulse (z : zT) (D : zD) (r0 : Nat) (x1 : Int32) (x2 : Int32) (r3 : Nat) : zMH Y_LW_pulse 9 1 6 (zqH z) (f_LW_pulse z.2 D r0 x1 x2 r3) [.ref r0, .int x1, .int x2, .ref r3] z D := by
  refine zMH_of (by decide +kernel) (Nat.le_of_ble_eq_true rfl) (fun _ _ _ _ h => nomatch h.1) (fun K => ?_)
  unfold f_LW_pulse
  refine z_aload_n (pc := 0) d_LW_pulse_0 rfl 3 rfl ?_
  refine z_iconst (pc := 1) d_LW_pulse_1 ki_0 ?_
  refine z_aload_n (pc := 2) d_LW_pulse_2 rfl 0 rfl ?_
  refine z_iload_n (pc := 3) d_LW_pulse_3 rfl 1 rfl ?_
  refine z_iload_n (pc := 4) d_LW_pulse_4 rfl 2 rfl ?_
  refine z_callX2 (pc := 5) (kc2 := 0) (ks2 := 0) [.int x1, .int x2] lkV_LW_36 rfl (c_SF_pulse z D r0 x1 x2) (by decide) (by decide) (by decide) rfl rfl (Nat.le_of_ble_eq_true rfl) d_LW_pulse_5 ct_LW_pulse_1 ct_LW_pulse_2 (fun v D1 z1 e1 t1 => ?_) (fun D1 z1 q1 e1 t1 => ?_) (fun D1 z1 q1 e1 t1 => ?_)
  · rw [← e1]
    refine z_i2l (pc := 8) d_LW_pulse_8 ?_
    refine z_lastore (pc := 9) d_LW_pulse_9 (fun z2 h2 => ?_)
    refine z_goto (pc := 10) (tgt := 21) d_LW_pulse_10 (by decide) ?_
    refine z_iconst (pc := 21) d_LW_pulse_21 ki_0 ?_
    exact z_hret (pc := 22) (by omega) d_LW_pulse_22 rfl
  · rw [← e1]
    refine z_astore (pc := 13) d_LW_pulse_13 (by decide) (lv' := [(4, .ref q1), (0, .ref r0), (1, .int x1), (2, .int x2), (3, .ref r3)]) rfl ?_
    refine z_iconst (pc := 15) d_LW_pulse_15 ki_1 ?_
    exact z_hret (pc := 16) t1 d_LW_pulse_16 rfl
  · rw [← e1]
    refine z_astore (pc := 17) d_LW_pulse_17 (by decide) (lv' := [(4, .ref q1), (0, .ref r0), (1, .int x1), (2, .int x2), (3, .ref r3)]) rfl ?_
    refine z_iconst (pc := 19) d_LW_pulse_19 ki_2 ?_
    exact z_hret (pc := 20) t1 d_LW_pulse_20 rfl
theorem d_LW_heard_0 : decode Y_LW_heard.2.1 0 = .ok (.aload 4, 2) := by decide +kernel
theorem d_LW_heard_2 : decode Y_LW_heard.2.1 2 = .ok (.iconst (0), 1) := by decide +kernel
theorem d_LW_heard_3 : decode Y_LW_heard.2.1 3 = .ok (.aload_n 0, 1) := by decide +kernel
theorem d_LW_heard_4 : decode Y_LW_heard.2.1 4 = .ok (.iload_n 1, 1) := by decide +kernel
theorem d_LW_heard_5 : decode Y_LW_heard.2.1 5 = .ok (.iload_n 2, 1) := by decide +kernel
theorem d_LW_heard_6 : decode Y_LW_heard.2.1 6 = .ok (.iload_n 3, 1) := by decide +kernel
theorem d_LW_heard_7 : decode Y_LW_heard.2.1 7 = .ok (.invokevirtual 39, 3) := by decide +kernel
theorem d_LW_heard_10 : decode Y_LW_heard.2.1 10 = .ok (.i2l, 1) := by decide +kernel
theorem d_LW_heard_11 : decode Y_LW_heard.2.1 11 = .ok (.lastore, 1) := by decide +kernel
theorem d_LW_heard_12 : decode Y_LW_heard.2.1 12 = .ok (.goto (11), 3) := by decide +kernel
theorem d_LW_heard_15 : decode Y_LW_heard.2.1 15 = .ok (.astore 5, 2) := by decide +kernel
theorem d_LW_heard_17 : decode Y_LW_heard.2.1 17 = .ok (.iconst (1), 1) := by decide +kernel
theorem d_LW_heard_18 : decode Y_LW_heard.2.1 18 = .ok (.ireturn, 1) := by decide +kernel
theorem d_LW_heard_19 : decode Y_LW_heard.2.1 19 = .ok (.astore 5, 2) := by decide +kernel
theorem d_LW_heard_21 : decode Y_LW_heard.2.1 21 = .ok (.iconst (2), 1) := by decide +kernel
theorem d_LW_heard_22 : decode Y_LW_heard.2.1 22 = .ok (.ireturn, 1) := by decide +kernel
theorem d_LW_heard_23 : decode Y_LW_heard.2.1 23 = .ok (.iconst (0), 1) := by decide +kernel
theorem d_LW_heard_24 : decode Y_LW_heard.2.1 24 = .ok (.ireturn, 1) := by decide +kernel
def f_LW_heard (w : zW) (D : zD) (r0 : Nat) (x1 : Int32) (x2 : Int32) (x3 : Int32) (r4 : Nat) : Option (Int32 × zW × zD) := zobj w 0 r0 (zcx (f_SF_heard w D r0 x1 x2 x3) (fun r D1 => Sum.elim (fun v => zastL w r4 (0 : Int32) v.toInt64 (fun w1 => some ((0 : Int32), w1, D1))) (fun E => zhs2 E "java/lang/IndexOutOfBoundsException" "java/lang/IllegalArgumentException" (some ((1 : Int32), w, D1)) (some ((2 : Int32), w, D1))) r))
set_option maxHeartbeats 4000000 in
theorem c_LW_heard (z : zT) (D : zD) (r0 : Nat) (x1 : Int32) (x2 : Int32) (x3 : Int32) (r4 : Nat) : zMH Y_LW_heard 9 1 6 (zqH z) (f_LW_heard z.2 D r0 x1 x2 x3 r4) [.ref r0, .int x1, .int x2, .int x3, .ref r4] z D := by
  refine zMH_of (by decide +kernel) (Nat.le_of_ble_eq_true rfl) (fun _ _ _ _ h => nomatch h.1) (fun K => ?_)
  unfold f_LW_heard
  refine z_aload (pc := 0) d_LW_heard_0 4 rfl ?_
  refine z_iconst (pc := 2) d_LW_heard_2 ki_0 ?_
  refine z_aload_n (pc := 3) d_LW_heard_3 rfl 0 rfl ?_
  refine z_iload_n (pc := 4) d_LW_heard_4 rfl 1 rfl ?_
  refine z_iload_n (pc := 5) d_LW_heard_5 rfl 2 rfl ?_
  refine z_iload_n (pc := 6) d_LW_heard_6 rfl 3 rfl ?_
  refine z_callX2 (pc := 7) (kc2 := 0) (ks2 := 0) [.int x1, .int x2, .int x3] lkV_LW_39 rfl (c_SF_heard z D r0 x1 x2 x3) (by decide) (by decide) (by decide) rfl rfl (Nat.le_of_ble_eq_true rfl) d_LW_heard_7 ct_LW_heard_1 ct_LW_heard_2 (fun v D1 z1 e1 t1 => ?_) (fun D1 z1 q1 e1 t1 => ?_) (fun D1 z1 q1 e1 t1 => ?_)
  · rw [← e1]
    refine z_i2l (pc := 10) d_LW_heard_10 ?_
    refine z_lastore (pc := 11) d_LW_heard_11 (fun z2 h2 => ?_)
    refine z_goto (pc := 12) (tgt := 23) d_LW_heard_12 (by decide) ?_
    refine z_iconst (pc := 23) d_LW_heard_23 ki_0 ?_
    exact z_hret (pc := 24) (by omega) d_LW_heard_24 rfl
  · rw [← e1]
    refine z_astore (pc := 15) d_LW_heard_15 (by decide) (lv' := [(5, .ref q1), (0, .ref r0), (1, .int x1), (2, .int x2), (3, .int x3), (4, .ref r4)]) rfl ?_
    refine z_iconst (pc := 17) d_LW_heard_17 ki_1 ?_
    exact z_hret (pc := 18) t1 d_LW_heard_18 rfl
  · rw [← e1]
    refine z_astore (pc := 19) d_LW_heard_19 (by decide) (lv' := [(5, .ref q1), (0, .ref r0), (1, .int x1), (2, .int x2), (3, .int x3), (4, .ref r4)]) rfl ?_
    refine z_iconst (pc := 21) d_LW_heard_21 ki_2 ?_
    exact z_hret (pc := 22) t1 d_LW_heard_22 rfl
theorem d_LW_siren_0 : decode Y_LW_siren.2.1 0 = .ok (.aload 6, 2) := by decide +kernel
theorem d_LW_siren_2 : decode Y_LW_siren.2.1 2 = .ok (.iconst (0), 1) := by decide +kernel
theorem d_LW_siren_3 : decode Y_LW_siren.2.1 3 = .ok (.aload_n 0, 1) := by decide +kernel
theorem d_LW_siren_4 : decode Y_LW_siren.2.1 4 = .ok (.iload_n 1, 1) := by decide +kernel
theorem d_LW_siren_5 : decode Y_LW_siren.2.1 5 = .ok (.iload_n 2, 1) := by decide +kernel
theorem d_LW_siren_6 : decode Y_LW_siren.2.1 6 = .ok (.iload_n 3, 1) := by decide +kernel
theorem d_LW_siren_7 : decode Y_LW_siren.2.1 7 = .ok (.iload 4, 2) := by decide +kernel
theorem d_LW_siren_9 : decode Y_LW_siren.2.1 9 = .ok (.iload 5, 2) := by decide +kernel
theorem d_LW_siren_11 : decode Y_LW_siren.2.1 11 = .ok (.invokevirtual 43, 3) := by decide +kernel
theorem d_LW_siren_14 : decode Y_LW_siren.2.1 14 = .ok (.i2l, 1) := by decide +kernel
theorem d_LW_siren_15 : decode Y_LW_siren.2.1 15 = .ok (.lastore, 1) := by decide +kernel
theorem d_LW_siren_16 : decode Y_LW_siren.2.1 16 = .ok (.goto (11), 3) := by decide +kernel
theorem d_LW_siren_19 : decode Y_LW_siren.2.1 19 = .ok (.astore 7, 2) := by decide +kernel
theorem d_LW_siren_21 : decode Y_LW_siren.2.1 21 = .ok (.iconst (1), 1) := by decide +kernel
theorem d_LW_siren_22 : decode Y_LW_siren.2.1 22 = .ok (.ireturn, 1) := by decide +kernel
theorem d_LW_siren_23 : decode Y_LW_siren.2.1 23 = .ok (.astore 7, 2) := by decide +kernel
theorem d_LW_siren_25 : decode Y_LW_siren.2.1 25 = .ok (.iconst (2), 1) := by decide +kernel
theorem d_LW_siren_26 : decode Y_LW_siren.2.1 26 = .ok (.ireturn, 1) := by decide +kernel
theorem d_LW_siren_27 : decode Y_LW_siren.2.1 27 = .ok (.iconst (0), 1) := by decide +kernel
theorem d_LW_siren_28 : decode Y_LW_siren.2.1 28 = .ok (.ireturn, 1) := by decide +kernel
def f_LW_siren (w : zW) (D : zD) (r0 : Nat) (x1 : Int32) (x2 : Int32) (x3 : Int32) (x4 : Int32) (x5 : Int32) (r6 : Nat) : Option (Int32 × zW × zD) := zobj w 0 r0 (zcx (f_SF_siren w D r0 x1 x2 x3 x4 x5) (fun r D1 => Sum.elim (fun v => zastL w r6 (0 : Int32) v.toInt64 (fun w1 => some ((0 : Int32), w1, D1))) (fun E => zhs2 E "java/lang/IllegalArgumentException" "java/lang/IllegalStateException" (some ((1 : Int32), w, D1)) (some ((2 : Int32), w, D1))) r))
set_option maxHeartbeats 4000000 in
theorem c_LW_siren (z : zT) (D : zD) (r0 : Nat) (x1 : Int32) (x2 : Int32) (x3 : Int32) (x4 : Int32) (x5 : Int32) (r6 : Nat) : zMH Y_LW_siren 9 1 6 (zqH z) (f_LW_siren z.2 D r0 x1 x2 x3 x4 x5 r6) [.ref r0, .int x1, .int x2, .int x3, .int x4, .int x5, .ref r6] z D := by
  refine zMH_of (by decide +kernel) (Nat.le_of_ble_eq_true rfl) (fun _ _ _ _ h => nomatch h.1) (fun K => ?_)
  unfold f_LW_siren
  refine z_aload (pc := 0) d_LW_siren_0 6 rfl ?_
  refine z_iconst (pc := 2) d_LW_siren_2 ki_0 ?_
  refine z_aload_n (pc := 3) d_LW_siren_3 rfl 0 rfl ?_
  refine z_iload_n (pc := 4) d_LW_siren_4 rfl 1 rfl ?_
  refine z_iload_n (pc := 5) d_LW_siren_5 rfl 2 rfl ?_
  refine z_iload_n (pc := 6) d_LW_siren_6 rfl 3 rfl ?_
  refine z_iload (pc := 7) d_LW_siren_7 4 rfl ?_
  refine z_iload (pc := 9) d_LW_siren_9 5 rfl ?_
  refine z_callX2 (pc := 11) (kc2 := 0) (ks2 := 0) [.int x1, .int x2, .int x3, .int x4, .int x5] lkV_LW_43 rfl (c_SF_siren z D r0 x1 x2 x3 x4 x5) (by decide) (by decide) (by decide) rfl rfl (Nat.le_of_ble_eq_true rfl) d_LW_siren_11 ct_LW_siren_1 ct_LW_siren_2 (fun v D1 z1 e1 t1 => ?_) (fun D1 z1 q1 e1 t1 => ?_) (fun D1 z1 q1 e1 t1 => ?_)
  · rw [← e1]
    refine z_i2l (pc := 14) d_LW_siren_14 ?_
    refine z_lastore (pc := 15) d_LW_siren_15 (fun z2 h2 => ?_)
    refine z_goto (pc := 16) (tgt := 27) d_LW_siren_16 (by decide) ?_
    refine z_iconst (pc := 27) d_LW_siren_27 ki_0 ?_
    exact z_hret (pc := 28) (by omega) d_LW_siren_28 rfl
  · rw [← e1]
    refine z_astore (pc := 19) d_LW_siren_19 (by decide) (lv' := [(7, .ref q1), (0, .ref r0), (1, .int x1), (2, .int x2), (3, .int x3), (4, .int x4), (5, .int x5), (6, .ref r6)]) rfl ?_
    refine z_iconst (pc := 21) d_LW_siren_21 ki_1 ?_
    exact z_hret (pc := 22) t1 d_LW_siren_22 rfl
  · rw [← e1]
    refine z_astore (pc := 23) d_LW_siren_23 (by decide) (lv' := [(7, .ref q1), (0, .ref r0), (1, .int x1), (2, .int x2), (3, .int x3), (4, .int x4), (5, .int x5), (6, .ref r6)]) rfl ?_
    refine z_iconst (pc := 25) d_LW_siren_25 ki_2 ?_
    exact z_hret (pc := 26) t1 d_LW_siren_26 rfl
theorem d_LW_hearer_0 : decode Y_LW_hearer.2.1 0 = .ok (.aload 5, 2) := by decide +kernel
theorem d_LW_hearer_2 : decode Y_LW_hearer.2.1 2 = .ok (.iconst (0), 1) := by decide +kernel
theorem d_LW_hearer_3 : decode Y_LW_hearer.2.1 3 = .ok (.aload_n 0, 1) := by decide +kernel
theorem d_LW_hearer_4 : decode Y_LW_hearer.2.1 4 = .ok (.iload_n 1, 1) := by decide +kernel
theorem d_LW_hearer_5 : decode Y_LW_hearer.2.1 5 = .ok (.iload_n 2, 1) := by decide +kernel
theorem d_LW_hearer_6 : decode Y_LW_hearer.2.1 6 = .ok (.iload_n 3, 1) := by decide +kernel
theorem d_LW_hearer_7 : decode Y_LW_hearer.2.1 7 = .ok (.iload 4, 2) := by decide +kernel
theorem d_LW_hearer_9 : decode Y_LW_hearer.2.1 9 = .ok (.invokevirtual 47, 3) := by decide +kernel
theorem d_LW_hearer_12 : decode Y_LW_hearer.2.1 12 = .ok (.i2l, 1) := by decide +kernel
theorem d_LW_hearer_13 : decode Y_LW_hearer.2.1 13 = .ok (.lastore, 1) := by decide +kernel
theorem d_LW_hearer_14 : decode Y_LW_hearer.2.1 14 = .ok (.goto (11), 3) := by decide +kernel
theorem d_LW_hearer_17 : decode Y_LW_hearer.2.1 17 = .ok (.astore 6, 2) := by decide +kernel
theorem d_LW_hearer_19 : decode Y_LW_hearer.2.1 19 = .ok (.iconst (1), 1) := by decide +kernel
theorem d_LW_hearer_20 : decode Y_LW_hearer.2.1 20 = .ok (.ireturn, 1) := by decide +kernel
theorem d_LW_hearer_21 : decode Y_LW_hearer.2.1 21 = .ok (.astore 6, 2) := by decide +kernel
theorem d_LW_hearer_23 : decode Y_LW_hearer.2.1 23 = .ok (.iconst (2), 1) := by decide +kernel
theorem d_LW_hearer_24 : decode Y_LW_hearer.2.1 24 = .ok (.ireturn, 1) := by decide +kernel
theorem d_LW_hearer_25 : decode Y_LW_hearer.2.1 25 = .ok (.iconst (0), 1) := by decide +kernel
theorem d_LW_hearer_26 : decode Y_LW_hearer.2.1 26 = .ok (.ireturn, 1) := by decide +kernel
def f_LW_hearer (w : zW) (D : zD) (r0 : Nat) (x1 : Int32) (x2 : Int32) (x3 : Int32) (x4 : Int32) (r5 : Nat) : Option (Int32 × zW × zD) := zobj w 0 r0 (zcx (f_SF_hearer w D r0 x1 x2 x3 x4) (fun r D1 => Sum.elim (fun v => zastL w r5 (0 : Int32) v.toInt64 (fun w1 => some ((0 : Int32), w1, D1))) (fun E => zhs2 E "java/lang/IllegalArgumentException" "java/lang/IllegalStateException" (some ((1 : Int32), w, D1)) (some ((2 : Int32), w, D1))) r))
set_option maxHeartbeats 4000000 in
theorem c_LW_hearer (z : zT) (D : zD) (r0 : Nat) (x1 : Int32) (x2 : Int32) (x3 : Int32) (x4 : Int32) (r5 : Nat) : zMH Y_LW_hearer 9 1 6 (zqH z) (f_LW_hearer z.2 D r0 x1 x2 x3 x4 r5) [.ref r0, .int x1, .int x2, .int x3, .int x4, .ref r5] z D := by
  refine zMH_of (by decide +kernel) (Nat.le_of_ble_eq_true rfl) (fun _ _ _ _ h => nomatch h.1) (fun K => ?_)
  unfold f_LW_hearer
  refine z_aload (pc := 0) d_LW_hearer_0 5 rfl ?_
  refine z_iconst (pc := 2) d_LW_hearer_2 ki_0 ?_
  refine z_aload_n (pc := 3) d_LW_hearer_3 rfl 0 rfl ?_
  refine z_iload_n (pc := 4) d_LW_hearer_4 rfl 1 rfl ?_
  refine z_iload_n (pc := 5) d_LW_hearer_5 rfl 2 rfl ?_
  refine z_iload_n (pc := 6) d_LW_hearer_6 rfl 3 rfl ?_
  refine z_iload (pc := 7) d_LW_hearer_7 4 rfl ?_
  refine z_callX2 (pc := 9) (kc2 := 0) (ks2 := 0) [.int x1, .int x2, .int x3, .int x4] lkV_LW_47 rfl (c_SF_hearer z D r0 x1 x2 x3 x4) (by decide) (by decide) (by decide) rfl rfl (Nat.le_of_ble_eq_true rfl) d_LW_hearer_9 ct_LW_hearer_1 ct_LW_hearer_2 (fun v D1 z1 e1 t1 => ?_) (fun D1 z1 q1 e1 t1 => ?_) (fun D1 z1 q1 e1 t1 => ?_)
  · rw [← e1]
    refine z_i2l (pc := 12) d_LW_hearer_12 ?_
    refine z_lastore (pc := 13) d_LW_hearer_13 (fun z2 h2 => ?_)
    refine z_goto (pc := 14) (tgt := 25) d_LW_hearer_14 (by decide) ?_
    refine z_iconst (pc := 25) d_LW_hearer_25 ki_0 ?_
    exact z_hret (pc := 26) (by omega) d_LW_hearer_26 rfl
  · rw [← e1]
    refine z_astore (pc := 17) d_LW_hearer_17 (by decide) (lv' := [(6, .ref q1), (0, .ref r0), (1, .int x1), (2, .int x2), (3, .int x3), (4, .int x4), (5, .ref r5)]) rfl ?_
    refine z_iconst (pc := 19) d_LW_hearer_19 ki_1 ?_
    exact z_hret (pc := 20) t1 d_LW_hearer_20 rfl
  · rw [← e1]
    refine z_astore (pc := 21) d_LW_hearer_21 (by decide) (lv' := [(6, .ref q1), (0, .ref r0), (1, .int x1), (2, .int x2), (3, .int x3), (4, .int x4), (5, .ref r5)]) rfl ?_
    refine z_iconst (pc := 23) d_LW_hearer_23 ki_2 ?_
    exact z_hret (pc := 24) t1 d_LW_hearer_24 rfl
theorem d_LW_wall_0 : decode Y_LW_wall.2.1 0 = .ok (.aload_n 3, 1) := by decide +kernel
theorem d_LW_wall_1 : decode Y_LW_wall.2.1 1 = .ok (.iconst (0), 1) := by decide +kernel
theorem d_LW_wall_2 : decode Y_LW_wall.2.1 2 = .ok (.aload_n 0, 1) := by decide +kernel
theorem d_LW_wall_3 : decode Y_LW_wall.2.1 3 = .ok (.iload_n 1, 1) := by decide +kernel
theorem d_LW_wall_4 : decode Y_LW_wall.2.1 4 = .ok (.iload_n 2, 1) := by decide +kernel
theorem d_LW_wall_5 : decode Y_LW_wall.2.1 5 = .ok (.invokevirtual 51, 3) := by decide +kernel
theorem d_LW_wall_8 : decode Y_LW_wall.2.1 8 = .ok (.i2l, 1) := by decide +kernel
theorem d_LW_wall_9 : decode Y_LW_wall.2.1 9 = .ok (.lastore, 1) := by decide +kernel
theorem d_LW_wall_10 : decode Y_LW_wall.2.1 10 = .ok (.goto (11), 3) := by decide +kernel
theorem d_LW_wall_13 : decode Y_LW_wall.2.1 13 = .ok (.astore 4, 2) := by decide +kernel
theorem d_LW_wall_15 : decode Y_LW_wall.2.1 15 = .ok (.iconst (1), 1) := by decide +kernel
theorem d_LW_wall_16 : decode Y_LW_wall.2.1 16 = .ok (.ireturn, 1) := by decide +kernel
theorem d_LW_wall_17 : decode Y_LW_wall.2.1 17 = .ok (.astore 4, 2) := by decide +kernel
theorem d_LW_wall_19 : decode Y_LW_wall.2.1 19 = .ok (.iconst (2), 1) := by decide +kernel
theorem d_LW_wall_20 : decode Y_LW_wall.2.1 20 = .ok (.ireturn, 1) := by decide +kernel
theorem d_LW_wall_21 : decode Y_LW_wall.2.1 21 = .ok (.iconst (0), 1) := by decide +kernel
theorem d_LW_wall_22 : decode Y_LW_wall.2.1 22 = .ok (.ireturn, 1) := by decide +kernel
def f_LW_wall (w : zW) (D : zD) (r0 : Nat) (x1 : Int32) (x2 : Int32) (r3 : Nat) : Option (Int32 × zW × zD) := zobj w 0 r0 (zcx (f_SF_wall w D r0 x1 x2) (fun r D1 => Sum.elim (fun v => zastL w r3 (0 : Int32) v.toInt64 (fun w1 => some ((0 : Int32), w1, D1))) (fun E => zhs2 E "java/lang/IllegalArgumentException" "java/lang/IllegalStateException" (some ((1 : Int32), w, D1)) (some ((2 : Int32), w, D1))) r))
set_option maxHeartbeats 4000000 in
theorem c_LW_wall (z : zT) (D : zD) (r0 : Nat) (x1 : Int32) (x2 : Int32) (r3 : Nat) : zMH Y_LW_wall 9 1 6 (zqH z) (f_LW_wall z.2 D r0 x1 x2 r3) [.ref r0, .int x1, .int x2, .ref r3] z D := by
  refine zMH_of (by decide +kernel) (Nat.le_of_ble_eq_true rfl) (fun _ _ _ _ h => nomatch h.1) (fun K => ?_)
  unfold f_LW_wall
  refine z_aload_n (pc := 0) d_LW_wall_0 rfl 3 rfl ?_
  refine z_iconst (pc := 1) d_LW_wall_1 ki_0 ?_
  refine z_aload_n (pc := 2) d_LW_wall_2 rfl 0 rfl ?_
  refine z_iload_n (pc := 3) d_LW_wall_3 rfl 1 rfl ?_
  refine z_iload_n (pc := 4) d_LW_wall_4 rfl 2 rfl ?_
  refine z_callX2 (pc := 5) (kc2 := 0) (ks2 := 0) [.int x1, .int x2] lkV_LW_51 rfl (c_SF_wall z D r0 x1 x2) (by decide) (by decide) (by decide) rfl rfl (Nat.le_of_ble_eq_true rfl) d_LW_wall_5 ct_LW_wall_1 ct_LW_wall_2 (fun v D1 z1 e1 t1 => ?_) (fun D1 z1 q1 e1 t1 => ?_) (fun D1 z1 q1 e1 t1 => ?_)
  · rw [← e1]
    refine z_i2l (pc := 8) d_LW_wall_8 ?_
    refine z_lastore (pc := 9) d_LW_wall_9 (fun z2 h2 => ?_)
    refine z_goto (pc := 10) (tgt := 21) d_LW_wall_10 (by decide) ?_
    refine z_iconst (pc := 21) d_LW_wall_21 ki_0 ?_
    exact z_hret (pc := 22) (by omega) d_LW_wall_22 rfl
  · rw [← e1]
    refine z_astore (pc := 13) d_LW_wall_13 (by decide) (lv' := [(4, .ref q1), (0, .ref r0), (1, .int x1), (2, .int x2), (3, .ref r3)]) rfl ?_
    refine z_iconst (pc := 15) d_LW_wall_15 ki_1 ?_
    exact z_hret (pc := 16) t1 d_LW_wall_16 rfl
  · rw [← e1]
    refine z_astore (pc := 17) d_LW_wall_17 (by decide) (lv' := [(4, .ref q1), (0, .ref r0), (1, .int x1), (2, .int x2), (3, .ref r3)]) rfl ?_
    refine z_iconst (pc := 19) d_LW_wall_19 ki_2 ?_
    exact z_hret (pc := 20) t1 d_LW_wall_20 rfl
theorem d_LW_turn_0 : decode Y_LW_turn.2.1 0 = .ok (.aload_n 3, 1) := by decide +kernel
theorem d_LW_turn_1 : decode Y_LW_turn.2.1 1 = .ok (.iconst (0), 1) := by decide +kernel
theorem d_LW_turn_2 : decode Y_LW_turn.2.1 2 = .ok (.aload_n 0, 1) := by decide +kernel
theorem d_LW_turn_3 : decode Y_LW_turn.2.1 3 = .ok (.iload_n 1, 1) := by decide +kernel
theorem d_LW_turn_4 : decode Y_LW_turn.2.1 4 = .ok (.iload_n 2, 1) := by decide +kernel
theorem d_LW_turn_5 : decode Y_LW_turn.2.1 5 = .ok (.invokevirtual 55, 3) := by decide +kernel
theorem d_LW_turn_8 : decode Y_LW_turn.2.1 8 = .ok (.i2l, 1) := by decide +kernel
theorem d_LW_turn_9 : decode Y_LW_turn.2.1 9 = .ok (.lastore, 1) := by decide +kernel
theorem d_LW_turn_10 : decode Y_LW_turn.2.1 10 = .ok (.goto (7), 3) := by decide +kernel
theorem d_LW_turn_13 : decode Y_LW_turn.2.1 13 = .ok (.astore 4, 2) := by decide +kernel
theorem d_LW_turn_15 : decode Y_LW_turn.2.1 15 = .ok (.iconst (1), 1) := by decide +kernel
theorem d_LW_turn_16 : decode Y_LW_turn.2.1 16 = .ok (.ireturn, 1) := by decide +kernel
theorem d_LW_turn_17 : decode Y_LW_turn.2.1 17 = .ok (.iconst (0), 1) := by decide +kernel
theorem d_LW_turn_18 : decode Y_LW_turn.2.1 18 = .ok (.ireturn, 1) := by decide +kernel
def f_LW_turn (w : zW) (D : zD) (r0 : Nat) (x1 : Int32) (x2 : Int32) (r3 : Nat) : Option (Int32 × zW × zD) := zobj w 0 r0 (zcx (f_SF_turn w D r0 x1 x2) (fun r D1 => Sum.elim (fun v => zastL w r3 (0 : Int32) v.toInt64 (fun w1 => some ((0 : Int32), w1, D1))) (fun E => zhs1 E "java/lang/IndexOutOfBoundsException" (some ((1 : Int32), w, D1))) r))
set_option maxHeartbeats 4000000 in
theorem c_LW_turn (z : zT) (D : zD) (r0 : Nat) (x1 : Int32) (x2 : Int32) (r3 : Nat) : zMH Y_LW_turn 9 1 6 (zqH z) (f_LW_turn z.2 D r0 x1 x2 r3) [.ref r0, .int x1, .int x2, .ref r3] z D := by
  refine zMH_of (by decide +kernel) (Nat.le_of_ble_eq_true rfl) (fun _ _ _ _ h => nomatch h.1) (fun K => ?_)
  unfold f_LW_turn
  refine z_aload_n (pc := 0) d_LW_turn_0 rfl 3 rfl ?_
  refine z_iconst (pc := 1) d_LW_turn_1 ki_0 ?_
  refine z_aload_n (pc := 2) d_LW_turn_2 rfl 0 rfl ?_
  refine z_iload_n (pc := 3) d_LW_turn_3 rfl 1 rfl ?_
  refine z_iload_n (pc := 4) d_LW_turn_4 rfl 2 rfl ?_
  refine z_callX1 (pc := 5) (kc2 := 0) (ks2 := 0) [.int x1, .int x2] lkV_LW_55 rfl (c_SF_turn z D r0 x1 x2) (by decide) (by decide) (by decide) rfl rfl (Nat.le_of_ble_eq_true rfl) d_LW_turn_5 ct_LW_turn_1 (fun v D1 z1 e1 t1 => ?_) (fun D1 z1 q1 e1 t1 => ?_)
  · rw [← e1]
    refine z_i2l (pc := 8) d_LW_turn_8 ?_
    refine z_lastore (pc := 9) d_LW_turn_9 (fun z2 h2 => ?_)
    refine z_goto (pc := 10) (tgt := 17) d_LW_turn_10 (by decide) ?_
    refine z_iconst (pc := 17) d_LW_turn_17 ki_0 ?_
    exact z_hret (pc := 18) (by omega) d_LW_turn_18 rfl
  · rw [← e1]
    refine z_astore (pc := 13) d_LW_turn_13 (by decide) (lv' := [(4, .ref q1), (0, .ref r0), (1, .int x1), (2, .int x2), (3, .ref r3)]) rfl ?_
    refine z_iconst (pc := 15) d_LW_turn_15 ki_1 ?_
    exact z_hret (pc := 16) t1 d_LW_turn_16 rfl
theorem d_LW_walk_0 : decode Y_LW_walk.2.1 0 = .ok (.aload 4, 2) := by decide +kernel
theorem d_LW_walk_2 : decode Y_LW_walk.2.1 2 = .ok (.iconst (0), 1) := by decide +kernel
theorem d_LW_walk_3 : decode Y_LW_walk.2.1 3 = .ok (.aload_n 0, 1) := by decide +kernel
theorem d_LW_walk_4 : decode Y_LW_walk.2.1 4 = .ok (.iload_n 1, 1) := by decide +kernel
theorem d_LW_walk_5 : decode Y_LW_walk.2.1 5 = .ok (.iload_n 2, 1) := by decide +kernel
theorem d_LW_walk_6 : decode Y_LW_walk.2.1 6 = .ok (.iload_n 3, 1) := by decide +kernel
theorem d_LW_walk_7 : decode Y_LW_walk.2.1 7 = .ok (.invokevirtual 59, 3) := by decide +kernel
theorem d_LW_walk_10 : decode Y_LW_walk.2.1 10 = .ok (.i2l, 1) := by decide +kernel
theorem d_LW_walk_11 : decode Y_LW_walk.2.1 11 = .ok (.lastore, 1) := by decide +kernel
theorem d_LW_walk_12 : decode Y_LW_walk.2.1 12 = .ok (.goto (11), 3) := by decide +kernel
theorem d_LW_walk_15 : decode Y_LW_walk.2.1 15 = .ok (.astore 5, 2) := by decide +kernel
theorem d_LW_walk_17 : decode Y_LW_walk.2.1 17 = .ok (.iconst (1), 1) := by decide +kernel
theorem d_LW_walk_18 : decode Y_LW_walk.2.1 18 = .ok (.ireturn, 1) := by decide +kernel
theorem d_LW_walk_19 : decode Y_LW_walk.2.1 19 = .ok (.astore 5, 2) := by decide +kernel
theorem d_LW_walk_21 : decode Y_LW_walk.2.1 21 = .ok (.iconst (2), 1) := by decide +kernel
theorem d_LW_walk_22 : decode Y_LW_walk.2.1 22 = .ok (.ireturn, 1) := by decide +kernel
theorem d_LW_walk_23 : decode Y_LW_walk.2.1 23 = .ok (.iconst (0), 1) := by decide +kernel
theorem d_LW_walk_24 : decode Y_LW_walk.2.1 24 = .ok (.ireturn, 1) := by decide +kernel
def f_LW_walk (w : zW) (D : zD) (r0 : Nat) (x1 : Int32) (x2 : Int32) (x3 : Int32) (r4 : Nat) : Option (Int32 × zW × zD) := zobj w 0 r0 (zcx (f_SF_walk w D r0 x1 x2 x3) (fun r D1 => Sum.elim (fun v => zastL w r4 (0 : Int32) v.toInt64 (fun w1 => some ((0 : Int32), w1, D1))) (fun E => zhs2 E "java/lang/IndexOutOfBoundsException" "java/lang/IllegalArgumentException" (some ((1 : Int32), w, D1)) (some ((2 : Int32), w, D1))) r))
set_option maxHeartbeats 4000000 in
theorem c_LW_walk (z : zT) (D : zD) (r0 : Nat) (x1 : Int32) (x2 : Int32) (x3 : Int32) (r4 : Nat) : zMH Y_LW_walk 9 1 6 (zqH z) (f_LW_walk z.2 D r0 x1 x2 x3 r4) [.ref r0, .int x1, .int x2, .int x3, .ref r4] z D := by
  refine zMH_of (by decide +kernel) (Nat.le_of_ble_eq_true rfl) (fun _ _ _ _ h => nomatch h.1) (fun K => ?_)
  unfold f_LW_walk
  refine z_aload (pc := 0) d_LW_walk_0 4 rfl ?_
  refine z_iconst (pc := 2) d_LW_walk_2 ki_0 ?_
  refine z_aload_n (pc := 3) d_LW_walk_3 rfl 0 rfl ?_
  refine z_iload_n (pc := 4) d_LW_walk_4 rfl 1 rfl ?_
  refine z_iload_n (pc := 5) d_LW_walk_5 rfl 2 rfl ?_
  refine z_iload_n (pc := 6) d_LW_walk_6 rfl 3 rfl ?_
  refine z_callX2 (pc := 7) (kc2 := 0) (ks2 := 0) [.int x1, .int x2, .int x3] lkV_LW_59 rfl (c_SF_walk z D r0 x1 x2 x3) (by decide) (by decide) (by decide) rfl rfl (Nat.le_of_ble_eq_true rfl) d_LW_walk_7 ct_LW_walk_1 ct_LW_walk_2 (fun v D1 z1 e1 t1 => ?_) (fun D1 z1 q1 e1 t1 => ?_) (fun D1 z1 q1 e1 t1 => ?_)
  · rw [← e1]
    refine z_i2l (pc := 10) d_LW_walk_10 ?_
    refine z_lastore (pc := 11) d_LW_walk_11 (fun z2 h2 => ?_)
    refine z_goto (pc := 12) (tgt := 23) d_LW_walk_12 (by decide) ?_
    refine z_iconst (pc := 23) d_LW_walk_23 ki_0 ?_
    exact z_hret (pc := 24) (by omega) d_LW_walk_24 rfl
  · rw [← e1]
    refine z_astore (pc := 15) d_LW_walk_15 (by decide) (lv' := [(5, .ref q1), (0, .ref r0), (1, .int x1), (2, .int x2), (3, .int x3), (4, .ref r4)]) rfl ?_
    refine z_iconst (pc := 17) d_LW_walk_17 ki_1 ?_
    exact z_hret (pc := 18) t1 d_LW_walk_18 rfl
  · rw [← e1]
    refine z_astore (pc := 19) d_LW_walk_19 (by decide) (lv' := [(5, .ref q1), (0, .ref r0), (1, .int x1), (2, .int x2), (3, .int x3), (4, .ref r4)]) rfl ?_
    refine z_iconst (pc := 21) d_LW_walk_21 ki_2 ?_
    exact z_hret (pc := 22) t1 d_LW_walk_22 rfl
theorem d_LW_ticks_0 : decode Y_LW_ticks.2.1 0 = .ok (.aload_n 2, 1) := by decide +kernel
theorem d_LW_ticks_1 : decode Y_LW_ticks.2.1 1 = .ok (.iconst (0), 1) := by decide +kernel
theorem d_LW_ticks_2 : decode Y_LW_ticks.2.1 2 = .ok (.aload_n 0, 1) := by decide +kernel
theorem d_LW_ticks_3 : decode Y_LW_ticks.2.1 3 = .ok (.iload_n 1, 1) := by decide +kernel
theorem d_LW_ticks_4 : decode Y_LW_ticks.2.1 4 = .ok (.invokevirtual 62, 3) := by decide +kernel
theorem d_LW_ticks_7 : decode Y_LW_ticks.2.1 7 = .ok (.i2l, 1) := by decide +kernel
theorem d_LW_ticks_8 : decode Y_LW_ticks.2.1 8 = .ok (.lastore, 1) := by decide +kernel
theorem d_LW_ticks_9 : decode Y_LW_ticks.2.1 9 = .ok (.goto (6), 3) := by decide +kernel
theorem d_LW_ticks_12 : decode Y_LW_ticks.2.1 12 = .ok (.astore_n 3, 1) := by decide +kernel
theorem d_LW_ticks_13 : decode Y_LW_ticks.2.1 13 = .ok (.iconst (1), 1) := by decide +kernel
theorem d_LW_ticks_14 : decode Y_LW_ticks.2.1 14 = .ok (.ireturn, 1) := by decide +kernel
theorem d_LW_ticks_15 : decode Y_LW_ticks.2.1 15 = .ok (.iconst (0), 1) := by decide +kernel
theorem d_LW_ticks_16 : decode Y_LW_ticks.2.1 16 = .ok (.ireturn, 1) := by decide +kernel
def f_LW_ticks (w : zW) (D : zD) (r0 : Nat) (x1 : Int32) (r2 : Nat) : Option (Int32 × zW × zD) := zobj w 0 r0 (zcx (f_SF_ticks w D r0 x1) (fun r D1 => Sum.elim (fun v => zastL w r2 (0 : Int32) v.toInt64 (fun w1 => some ((0 : Int32), w1, D1))) (fun E => zhs1 E "java/lang/IllegalArgumentException" (some ((1 : Int32), w, D1))) r))
set_option maxHeartbeats 4000000 in
theorem c_LW_ticks (z : zT) (D : zD) (r0 : Nat) (x1 : Int32) (r2 : Nat) : zMH Y_LW_ticks 9 1 6 (zqH z) (f_LW_ticks z.2 D r0 x1 r2) [.ref r0, .int x1, .ref r2] z D := by
  refine zMH_of (by decide +kernel) (Nat.le_of_ble_eq_true rfl) (fun _ _ _ _ h => nomatch h.1) (fun K => ?_)
  unfold f_LW_ticks
  refine z_aload_n (pc := 0) d_LW_ticks_0 rfl 2 rfl ?_
  refine z_iconst (pc := 1) d_LW_ticks_1 ki_0 ?_
  refine z_aload_n (pc := 2) d_LW_ticks_2 rfl 0 rfl ?_
  refine z_iload_n (pc := 3) d_LW_ticks_3 rfl 1 rfl ?_
  refine z_callX1 (pc := 4) (kc2 := 0) (ks2 := 0) [.int x1] lkV_LW_62 rfl (c_SF_ticks z D r0 x1) (by decide) (by decide) (by decide) rfl rfl (Nat.le_of_ble_eq_true rfl) d_LW_ticks_4 ct_LW_ticks_1 (fun v D1 z1 e1 t1 => ?_) (fun D1 z1 q1 e1 t1 => ?_)
  · rw [← e1]
    refine z_i2l (pc := 7) d_LW_ticks_7 ?_
    refine z_lastore (pc := 8) d_LW_ticks_8 (fun z2 h2 => ?_)
    refine z_goto (pc := 9) (tgt := 15) d_LW_ticks_9 (by decide) ?_
    refine z_iconst (pc := 15) d_LW_ticks_15 ki_0 ?_
    exact z_hret (pc := 16) (by omega) d_LW_ticks_16 rfl
  · rw [← e1]
    refine z_astore_n (pc := 12) d_LW_ticks_12 rfl (by decide) (lv' := [(3, .ref q1), (0, .ref r0), (1, .int x1), (2, .ref r2)]) rfl ?_
    refine z_iconst (pc := 13) d_LW_ticks_13 ki_1 ?_
    exact z_hret (pc := 14) t1 d_LW_ticks_14 rfl
theorem d_LW_set_0 : decode Y_LW_set.2.1 0 = .ok (.aload_n 3, 1) := by decide +kernel
theorem d_LW_set_1 : decode Y_LW_set.2.1 1 = .ok (.iconst (0), 1) := by decide +kernel
theorem d_LW_set_2 : decode Y_LW_set.2.1 2 = .ok (.aload_n 0, 1) := by decide +kernel
theorem d_LW_set_3 : decode Y_LW_set.2.1 3 = .ok (.iload_n 1, 1) := by decide +kernel
theorem d_LW_set_4 : decode Y_LW_set.2.1 4 = .ok (.iload_n 2, 1) := by decide +kernel
theorem d_LW_set_5 : decode Y_LW_set.2.1 5 = .ok (.invokevirtual 65, 3) := by decide +kernel
theorem d_LW_set_8 : decode Y_LW_set.2.1 8 = .ok (.i2l, 1) := by decide +kernel
theorem d_LW_set_9 : decode Y_LW_set.2.1 9 = .ok (.lastore, 1) := by decide +kernel
theorem d_LW_set_10 : decode Y_LW_set.2.1 10 = .ok (.goto (7), 3) := by decide +kernel
theorem d_LW_set_13 : decode Y_LW_set.2.1 13 = .ok (.astore 4, 2) := by decide +kernel
theorem d_LW_set_15 : decode Y_LW_set.2.1 15 = .ok (.iconst (1), 1) := by decide +kernel
theorem d_LW_set_16 : decode Y_LW_set.2.1 16 = .ok (.ireturn, 1) := by decide +kernel
theorem d_LW_set_17 : decode Y_LW_set.2.1 17 = .ok (.iconst (0), 1) := by decide +kernel
theorem d_LW_set_18 : decode Y_LW_set.2.1 18 = .ok (.ireturn, 1) := by decide +kernel
def f_LW_set (w : zW) (D : zD) (r0 : Nat) (x1 : Int32) (x2 : Int32) (r3 : Nat) : Option (Int32 × zW × zD) := zobj w 0 r0 (zcx (f_SF_set w D r0 x1 x2) (fun r D1 => Sum.elim (fun v => zastL w r3 (0 : Int32) v.toInt64 (fun w1 => some ((0 : Int32), w1, D1))) (fun E => zhs1 E "java/lang/IllegalArgumentException" (some ((1 : Int32), w, D1))) r))
set_option maxHeartbeats 4000000 in
theorem c_LW_set (z : zT) (D : zD) (r0 : Nat) (x1 : Int32) (x2 : Int32) (r3 : Nat) : zMH Y_LW_set 9 1 6 (zqH z) (f_LW_set z.2 D r0 x1 x2 r3) [.ref r0, .int x1, .int x2, .ref r3] z D := by
  refine zMH_of (by decide +kernel) (Nat.le_of_ble_eq_true rfl) (fun _ _ _ _ h => nomatch h.1) (fun K => ?_)
  unfold f_LW_set
  refine z_aload_n (pc := 0) d_LW_set_0 rfl 3 rfl ?_
  refine z_iconst (pc := 1) d_LW_set_1 ki_0 ?_
  refine z_aload_n (pc := 2) d_LW_set_2 rfl 0 rfl ?_
  refine z_iload_n (pc := 3) d_LW_set_3 rfl 1 rfl ?_
  refine z_iload_n (pc := 4) d_LW_set_4 rfl 2 rfl ?_
  refine z_callX1 (pc := 5) (kc2 := 0) (ks2 := 0) [.int x1, .int x2] lkV_LW_65 rfl (c_SF_set z D r0 x1 x2) (by decide) (by decide) (by decide) rfl rfl (Nat.le_of_ble_eq_true rfl) d_LW_set_5 ct_LW_set_1 (fun v D1 z1 e1 t1 => ?_) (fun D1 z1 q1 e1 t1 => ?_)
  · rw [← e1]
    refine z_i2l (pc := 8) d_LW_set_8 ?_
    refine z_lastore (pc := 9) d_LW_set_9 (fun z2 h2 => ?_)
    refine z_goto (pc := 10) (tgt := 17) d_LW_set_10 (by decide) ?_
    refine z_iconst (pc := 17) d_LW_set_17 ki_0 ?_
    exact z_hret (pc := 18) (by omega) d_LW_set_18 rfl
  · rw [← e1]
    refine z_astore (pc := 13) d_LW_set_13 (by decide) (lv' := [(4, .ref q1), (0, .ref r0), (1, .int x1), (2, .int x2), (3, .ref r3)]) rfl ?_
    refine z_iconst (pc := 15) d_LW_set_15 ki_1 ?_
    exact z_hret (pc := 16) t1 d_LW_set_16 rfl
theorem d_LW_undo_0 : decode Y_LW_undo.2.1 0 = .ok (.aload_n 1, 1) := by decide +kernel
theorem d_LW_undo_1 : decode Y_LW_undo.2.1 1 = .ok (.iconst (0), 1) := by decide +kernel
theorem d_LW_undo_2 : decode Y_LW_undo.2.1 2 = .ok (.aload_n 0, 1) := by decide +kernel
theorem d_LW_undo_3 : decode Y_LW_undo.2.1 3 = .ok (.invokevirtual 68, 3) := by decide +kernel
theorem d_LW_undo_6 : decode Y_LW_undo.2.1 6 = .ok (.i2l, 1) := by decide +kernel
theorem d_LW_undo_7 : decode Y_LW_undo.2.1 7 = .ok (.lastore, 1) := by decide +kernel
theorem d_LW_undo_8 : decode Y_LW_undo.2.1 8 = .ok (.goto (6), 3) := by decide +kernel
theorem d_LW_undo_11 : decode Y_LW_undo.2.1 11 = .ok (.astore_n 2, 1) := by decide +kernel
theorem d_LW_undo_12 : decode Y_LW_undo.2.1 12 = .ok (.iconst (1), 1) := by decide +kernel
theorem d_LW_undo_13 : decode Y_LW_undo.2.1 13 = .ok (.ireturn, 1) := by decide +kernel
theorem d_LW_undo_14 : decode Y_LW_undo.2.1 14 = .ok (.iconst (0), 1) := by decide +kernel
theorem d_LW_undo_15 : decode Y_LW_undo.2.1 15 = .ok (.ireturn, 1) := by decide +kernel
def f_LW_undo (w : zW) (D : zD) (r0 : Nat) (r1 : Nat) : Option (Int32 × zW × zD) := zobj w 0 r0 (zcx (f_SF_undo w D r0 ) (fun r D1 => Sum.elim (fun v => zastL w r1 (0 : Int32) v.toInt64 (fun w1 => some ((0 : Int32), w1, D1))) (fun E => zhs1 E "java/lang/IllegalStateException" (some ((1 : Int32), w, D1))) r))
set_option maxHeartbeats 4000000 in
theorem c_LW_undo (z : zT) (D : zD) (r0 : Nat) (r1 : Nat) : zMH Y_LW_undo 9 1 6 (zqH z) (f_LW_undo z.2 D r0 r1) [.ref r0, .ref r1] z D := by
  refine zMH_of (by decide +kernel) (Nat.le_of_ble_eq_true rfl) (fun _ _ _ _ h => nomatch h.1) (fun K => ?_)
  unfold f_LW_undo
  refine z_aload_n (pc := 0) d_LW_undo_0 rfl 1 rfl ?_
  refine z_iconst (pc := 1) d_LW_undo_1 ki_0 ?_
  refine z_aload_n (pc := 2) d_LW_undo_2 rfl 0 rfl ?_
  refine z_callX1 (pc := 3) (kc2 := 0) (ks2 := 0) [] lkV_LW_68 rfl (c_SF_undo z D r0 ) (by decide) (by decide) (by decide) rfl rfl (Nat.le_of_ble_eq_true rfl) d_LW_undo_3 ct_LW_undo_1 (fun v D1 z1 e1 t1 => ?_) (fun D1 z1 q1 e1 t1 => ?_)
  · rw [← e1]
    refine z_i2l (pc := 6) d_LW_undo_6 ?_
    refine z_lastore (pc := 7) d_LW_undo_7 (fun z2 h2 => ?_)
    refine z_goto (pc := 8) (tgt := 14) d_LW_undo_8 (by decide) ?_
    refine z_iconst (pc := 14) d_LW_undo_14 ki_0 ?_
    exact z_hret (pc := 15) (by omega) d_LW_undo_15 rfl
  · rw [← e1]
    refine z_astore_n (pc := 11) d_LW_undo_11 rfl (by decide) (lv' := [(2, .ref q1), (0, .ref r0), (1, .ref r1)]) rfl ?_
    refine z_iconst (pc := 12) d_LW_undo_12 ki_1 ?_
    exact z_hret (pc := 13) t1 d_LW_undo_13 rfl
theorem d_LW_sirenIn_0 : decode Y_LW_sirenIn.2.1 0 = .ok (.aload 4, 2) := by decide +kernel
theorem d_LW_sirenIn_2 : decode Y_LW_sirenIn.2.1 2 = .ok (.iconst (0), 1) := by decide +kernel
theorem d_LW_sirenIn_3 : decode Y_LW_sirenIn.2.1 3 = .ok (.aload_n 0, 1) := by decide +kernel
theorem d_LW_sirenIn_4 : decode Y_LW_sirenIn.2.1 4 = .ok (.iload_n 1, 1) := by decide +kernel
theorem d_LW_sirenIn_5 : decode Y_LW_sirenIn.2.1 5 = .ok (.iload_n 2, 1) := by decide +kernel
theorem d_LW_sirenIn_6 : decode Y_LW_sirenIn.2.1 6 = .ok (.iload_n 3, 1) := by decide +kernel
theorem d_LW_sirenIn_7 : decode Y_LW_sirenIn.2.1 7 = .ok (.invokevirtual 71, 3) := by decide +kernel
theorem d_LW_sirenIn_10 : decode Y_LW_sirenIn.2.1 10 = .ok (.i2l, 1) := by decide +kernel
theorem d_LW_sirenIn_11 : decode Y_LW_sirenIn.2.1 11 = .ok (.lastore, 1) := by decide +kernel
theorem d_LW_sirenIn_12 : decode Y_LW_sirenIn.2.1 12 = .ok (.goto (11), 3) := by decide +kernel
theorem d_LW_sirenIn_15 : decode Y_LW_sirenIn.2.1 15 = .ok (.astore 5, 2) := by decide +kernel
theorem d_LW_sirenIn_17 : decode Y_LW_sirenIn.2.1 17 = .ok (.iconst (1), 1) := by decide +kernel
theorem d_LW_sirenIn_18 : decode Y_LW_sirenIn.2.1 18 = .ok (.ireturn, 1) := by decide +kernel
theorem d_LW_sirenIn_19 : decode Y_LW_sirenIn.2.1 19 = .ok (.astore 5, 2) := by decide +kernel
theorem d_LW_sirenIn_21 : decode Y_LW_sirenIn.2.1 21 = .ok (.iconst (2), 1) := by decide +kernel
theorem d_LW_sirenIn_22 : decode Y_LW_sirenIn.2.1 22 = .ok (.ireturn, 1) := by decide +kernel
theorem d_LW_sirenIn_23 : decode Y_LW_sirenIn.2.1 23 = .ok (.iconst (0), 1) := by decide +kernel
theorem d_LW_sirenIn_24 : decode Y_LW_sirenIn.2.1 24 = .ok (.ireturn, 1) := by decide +kernel
def f_LW_sirenIn (w : zW) (D : zD) (r0 : Nat) (x1 : Int32) (x2 : Int32) (x3 : Int32) (r4 : Nat) : Option (Int32 × zW × zD) := zobj w 0 r0 (zcx (f_SF_sirenIn w D r0 x1 x2 x3) (fun r D1 => Sum.elim (fun v => zastL w r4 (0 : Int32) v.toInt64 (fun w1 => some ((0 : Int32), w1, D1))) (fun E => zhs2 E "java/lang/IndexOutOfBoundsException" "java/lang/IllegalArgumentException" (some ((1 : Int32), w, D1)) (some ((2 : Int32), w, D1))) r))
set_option maxHeartbeats 4000000 in
theorem c_LW_sirenIn (z : zT) (D : zD) (r0 : Nat) (x1 : Int32) (x2 : Int32) (x3 : Int32) (r4 : Nat) : zMH Y_LW_sirenIn 9 1 6 (zqH z) (f_LW_sirenIn z.2 D r0 x1 x2 x3 r4) [.ref r0, .int x1, .int x2, .int x3, .ref r4] z D := by
  refine zMH_of (by decide +kernel) (Nat.le_of_ble_eq_true rfl) (fun _ _ _ _ h => nomatch h.1) (fun K => ?_)
  unfold f_LW_sirenIn
  refine z_aload (pc := 0) d_LW_sirenIn_0 4 rfl ?_
  refine z_iconst (pc := 2) d_LW_sirenIn_2 ki_0 ?_
  refine z_aload_n (pc := 3) d_LW_sirenIn_3 rfl 0 rfl ?_
  refine z_iload_n (pc := 4) d_LW_sirenIn_4 rfl 1 rfl ?_
  refine z_iload_n (pc := 5) d_LW_sirenIn_5 rfl 2 rfl ?_
  refine z_iload_n (pc := 6) d_LW_sirenIn_6 rfl 3 rfl ?_
  refine z_callX2 (pc := 7) (kc2 := 0) (ks2 := 0) [.int x1, .int x2, .int x3] lkV_LW_71 rfl (c_SF_sirenIn z D r0 x1 x2 x3) (by decide) (by decide) (by decide) rfl rfl (Nat.le_of_ble_eq_true rfl) d_LW_sirenIn_7 ct_LW_sirenIn_1 ct_LW_sirenIn_2 (fun v D1 z1 e1 t1 => ?_) (fun D1 z1 q1 e1 t1 => ?_) (fun D1 z1 q1 e1 t1 => ?_)
  · rw [← e1]
    refine z_i2l (pc := 10) d_LW_sirenIn_10 ?_
    refine z_lastore (pc := 11) d_LW_sirenIn_11 (fun z2 h2 => ?_)
    refine z_goto (pc := 12) (tgt := 23) d_LW_sirenIn_12 (by decide) ?_
    refine z_iconst (pc := 23) d_LW_sirenIn_23 ki_0 ?_
    exact z_hret (pc := 24) (by omega) d_LW_sirenIn_24 rfl
  · rw [← e1]
    refine z_astore (pc := 15) d_LW_sirenIn_15 (by decide) (lv' := [(5, .ref q1), (0, .ref r0), (1, .int x1), (2, .int x2), (3, .int x3), (4, .ref r4)]) rfl ?_
    refine z_iconst (pc := 17) d_LW_sirenIn_17 ki_1 ?_
    exact z_hret (pc := 18) t1 d_LW_sirenIn_18 rfl
  · rw [← e1]
    refine z_astore (pc := 19) d_LW_sirenIn_19 (by decide) (lv' := [(5, .ref q1), (0, .ref r0), (1, .int x1), (2, .int x2), (3, .int x3), (4, .ref r4)]) rfl ?_
    refine z_iconst (pc := 21) d_LW_sirenIn_21 ki_2 ?_
    exact z_hret (pc := 22) t1 d_LW_sirenIn_22 rfl
theorem d_LW_heardIn_0 : decode Y_LW_heardIn.2.1 0 = .ok (.aload_n 3, 1) := by decide +kernel
theorem d_LW_heardIn_1 : decode Y_LW_heardIn.2.1 1 = .ok (.iconst (0), 1) := by decide +kernel
theorem d_LW_heardIn_2 : decode Y_LW_heardIn.2.1 2 = .ok (.aload_n 0, 1) := by decide +kernel
theorem d_LW_heardIn_3 : decode Y_LW_heardIn.2.1 3 = .ok (.iload_n 1, 1) := by decide +kernel
theorem d_LW_heardIn_4 : decode Y_LW_heardIn.2.1 4 = .ok (.iload_n 2, 1) := by decide +kernel
theorem d_LW_heardIn_5 : decode Y_LW_heardIn.2.1 5 = .ok (.invokevirtual 74, 3) := by decide +kernel
theorem d_LW_heardIn_8 : decode Y_LW_heardIn.2.1 8 = .ok (.i2l, 1) := by decide +kernel
theorem d_LW_heardIn_9 : decode Y_LW_heardIn.2.1 9 = .ok (.lastore, 1) := by decide +kernel
theorem d_LW_heardIn_10 : decode Y_LW_heardIn.2.1 10 = .ok (.goto (7), 3) := by decide +kernel
theorem d_LW_heardIn_13 : decode Y_LW_heardIn.2.1 13 = .ok (.astore 4, 2) := by decide +kernel
theorem d_LW_heardIn_15 : decode Y_LW_heardIn.2.1 15 = .ok (.iconst (1), 1) := by decide +kernel
theorem d_LW_heardIn_16 : decode Y_LW_heardIn.2.1 16 = .ok (.ireturn, 1) := by decide +kernel
theorem d_LW_heardIn_17 : decode Y_LW_heardIn.2.1 17 = .ok (.iconst (0), 1) := by decide +kernel
theorem d_LW_heardIn_18 : decode Y_LW_heardIn.2.1 18 = .ok (.ireturn, 1) := by decide +kernel
def f_LW_heardIn (w : zW) (D : zD) (r0 : Nat) (x1 : Int32) (x2 : Int32) (r3 : Nat) : Option (Int32 × zW × zD) := zobj w 0 r0 (zcx (f_SF_heardIn w D r0 x1 x2) (fun r D1 => Sum.elim (fun v => zastL w r3 (0 : Int32) v.toInt64 (fun w1 => some ((0 : Int32), w1, D1))) (fun E => zhs1 E "java/lang/IndexOutOfBoundsException" (some ((1 : Int32), w, D1))) r))
set_option maxHeartbeats 4000000 in
theorem c_LW_heardIn (z : zT) (D : zD) (r0 : Nat) (x1 : Int32) (x2 : Int32) (r3 : Nat) : zMH Y_LW_heardIn 9 1 6 (zqH z) (f_LW_heardIn z.2 D r0 x1 x2 r3) [.ref r0, .int x1, .int x2, .ref r3] z D := by
  refine zMH_of (by decide +kernel) (Nat.le_of_ble_eq_true rfl) (fun _ _ _ _ h => nomatch h.1) (fun K => ?_)
  unfold f_LW_heardIn
  refine z_aload_n (pc := 0) d_LW_heardIn_0 rfl 3 rfl ?_
  refine z_iconst (pc := 1) d_LW_heardIn_1 ki_0 ?_
  refine z_aload_n (pc := 2) d_LW_heardIn_2 rfl 0 rfl ?_
  refine z_iload_n (pc := 3) d_LW_heardIn_3 rfl 1 rfl ?_
  refine z_iload_n (pc := 4) d_LW_heardIn_4 rfl 2 rfl ?_
  refine z_callX1 (pc := 5) (kc2 := 0) (ks2 := 0) [.int x1, .int x2] lkV_LW_74 rfl (c_SF_heardIn z D r0 x1 x2) (by decide) (by decide) (by decide) rfl rfl (Nat.le_of_ble_eq_true rfl) d_LW_heardIn_5 ct_LW_heardIn_1 (fun v D1 z1 e1 t1 => ?_) (fun D1 z1 q1 e1 t1 => ?_)
  · rw [← e1]
    refine z_i2l (pc := 8) d_LW_heardIn_8 ?_
    refine z_lastore (pc := 9) d_LW_heardIn_9 (fun z2 h2 => ?_)
    refine z_goto (pc := 10) (tgt := 17) d_LW_heardIn_10 (by decide) ?_
    refine z_iconst (pc := 17) d_LW_heardIn_17 ki_0 ?_
    exact z_hret (pc := 18) (by omega) d_LW_heardIn_18 rfl
  · rw [← e1]
    refine z_astore (pc := 13) d_LW_heardIn_13 (by decide) (lv' := [(4, .ref q1), (0, .ref r0), (1, .int x1), (2, .int x2), (3, .ref r3)]) rfl ?_
    refine z_iconst (pc := 15) d_LW_heardIn_15 ki_1 ?_
    exact z_hret (pc := 16) t1 d_LW_heardIn_16 rfl
theorem d_LW_leastSpeed_0 : decode Y_LW_leastSpeed.2.1 0 = .ok (.aload_n 2, 1) := by decide +kernel
theorem d_LW_leastSpeed_1 : decode Y_LW_leastSpeed.2.1 1 = .ok (.iconst (0), 1) := by decide +kernel
theorem d_LW_leastSpeed_2 : decode Y_LW_leastSpeed.2.1 2 = .ok (.aload_n 0, 1) := by decide +kernel
theorem d_LW_leastSpeed_3 : decode Y_LW_leastSpeed.2.1 3 = .ok (.iload_n 1, 1) := by decide +kernel
theorem d_LW_leastSpeed_4 : decode Y_LW_leastSpeed.2.1 4 = .ok (.invokevirtual 77, 3) := by decide +kernel
theorem d_LW_leastSpeed_7 : decode Y_LW_leastSpeed.2.1 7 = .ok (.i2l, 1) := by decide +kernel
theorem d_LW_leastSpeed_8 : decode Y_LW_leastSpeed.2.1 8 = .ok (.lastore, 1) := by decide +kernel
theorem d_LW_leastSpeed_9 : decode Y_LW_leastSpeed.2.1 9 = .ok (.goto (6), 3) := by decide +kernel
theorem d_LW_leastSpeed_12 : decode Y_LW_leastSpeed.2.1 12 = .ok (.astore_n 3, 1) := by decide +kernel
theorem d_LW_leastSpeed_13 : decode Y_LW_leastSpeed.2.1 13 = .ok (.iconst (1), 1) := by decide +kernel
theorem d_LW_leastSpeed_14 : decode Y_LW_leastSpeed.2.1 14 = .ok (.ireturn, 1) := by decide +kernel
theorem d_LW_leastSpeed_15 : decode Y_LW_leastSpeed.2.1 15 = .ok (.iconst (0), 1) := by decide +kernel
theorem d_LW_leastSpeed_16 : decode Y_LW_leastSpeed.2.1 16 = .ok (.ireturn, 1) := by decide +kernel
def f_LW_leastSpeed (w : zW) (D : zD) (r0 : Nat) (x1 : Int32) (r2 : Nat) : Option (Int32 × zW × zD) := zobj w 0 r0 (zcx (f_SF_leastSpeed w D r0 x1) (fun r D1 => Sum.elim (fun v => zastL w r2 (0 : Int32) v.toInt64 (fun w1 => some ((0 : Int32), w1, D1))) (fun E => zhs1 E "java/lang/IllegalArgumentException" (some ((1 : Int32), w, D1))) r))
set_option maxHeartbeats 4000000 in
theorem c_LW_leastSpeed (z : zT) (D : zD) (r0 : Nat) (x1 : Int32) (r2 : Nat) : zMH Y_LW_leastSpeed 9 1 6 (zqH z) (f_LW_leastSpeed z.2 D r0 x1 r2) [.ref r0, .int x1, .ref r2] z D := by
  refine zMH_of (by decide +kernel) (Nat.le_of_ble_eq_true rfl) (fun _ _ _ _ h => nomatch h.1) (fun K => ?_)
  unfold f_LW_leastSpeed
  refine z_aload_n (pc := 0) d_LW_leastSpeed_0 rfl 2 rfl ?_
  refine z_iconst (pc := 1) d_LW_leastSpeed_1 ki_0 ?_
  refine z_aload_n (pc := 2) d_LW_leastSpeed_2 rfl 0 rfl ?_
  refine z_iload_n (pc := 3) d_LW_leastSpeed_3 rfl 1 rfl ?_
  refine z_callX1 (pc := 4) (kc2 := 0) (ks2 := 0) [.int x1] lkV_LW_77 rfl (c_SF_leastSpeed z D r0 x1) (by decide) (by decide) (by decide) rfl rfl (Nat.le_of_ble_eq_true rfl) d_LW_leastSpeed_4 ct_LW_leastSpeed_1 (fun v D1 z1 e1 t1 => ?_) (fun D1 z1 q1 e1 t1 => ?_)
  · rw [← e1]
    refine z_i2l (pc := 7) d_LW_leastSpeed_7 ?_
    refine z_lastore (pc := 8) d_LW_leastSpeed_8 (fun z2 h2 => ?_)
    refine z_goto (pc := 9) (tgt := 15) d_LW_leastSpeed_9 (by decide) ?_
    refine z_iconst (pc := 15) d_LW_leastSpeed_15 ki_0 ?_
    exact z_hret (pc := 16) (by omega) d_LW_leastSpeed_16 rfl
  · rw [← e1]
    refine z_astore_n (pc := 12) d_LW_leastSpeed_12 rfl (by decide) (lv' := [(3, .ref q1), (0, .ref r0), (1, .int x1), (2, .ref r2)]) rfl ?_
    refine z_iconst (pc := 13) d_LW_leastSpeed_13 ki_1 ?_
    exact z_hret (pc := 14) t1 d_LW_leastSpeed_14 rfl
theorem d_LW_runScript_0 : decode Y_LW_runScript.2.1 0 = .ok (.aload 4, 2) := by decide +kernel
theorem d_LW_runScript_2 : decode Y_LW_runScript.2.1 2 = .ok (.iconst (0), 1) := by decide +kernel
theorem d_LW_runScript_3 : decode Y_LW_runScript.2.1 3 = .ok (.aload_n 0, 1) := by decide +kernel
theorem d_LW_runScript_4 : decode Y_LW_runScript.2.1 4 = .ok (.iload_n 1, 1) := by decide +kernel
theorem d_LW_runScript_5 : decode Y_LW_runScript.2.1 5 = .ok (.lload_n 2, 1) := by decide +kernel
theorem d_LW_runScript_6 : decode Y_LW_runScript.2.1 6 = .ok (.invokevirtual 80, 3) := by decide +kernel
theorem d_LW_runScript_9 : decode Y_LW_runScript.2.1 9 = .ok (.i2l, 1) := by decide +kernel
theorem d_LW_runScript_10 : decode Y_LW_runScript.2.1 10 = .ok (.lastore, 1) := by decide +kernel
theorem d_LW_runScript_11 : decode Y_LW_runScript.2.1 11 = .ok (.goto (7), 3) := by decide +kernel
theorem d_LW_runScript_14 : decode Y_LW_runScript.2.1 14 = .ok (.astore 5, 2) := by decide +kernel
theorem d_LW_runScript_16 : decode Y_LW_runScript.2.1 16 = .ok (.iconst (1), 1) := by decide +kernel
theorem d_LW_runScript_17 : decode Y_LW_runScript.2.1 17 = .ok (.ireturn, 1) := by decide +kernel
theorem d_LW_runScript_18 : decode Y_LW_runScript.2.1 18 = .ok (.iconst (0), 1) := by decide +kernel
theorem d_LW_runScript_19 : decode Y_LW_runScript.2.1 19 = .ok (.ireturn, 1) := by decide +kernel
def f_LW_runScript (w : zW) (D : zD) (r0 : Nat) (x1 : Int32) (l2 : Int64) (r4 : Nat) : Option (Int32 × zW × zD) := zobj w 0 r0 (zcx (f_SF_runScript w D r0 x1 l2) (fun r D1 => Sum.elim (fun v => zastL w r4 (0 : Int32) v.toInt64 (fun w1 => some ((0 : Int32), w1, D1))) (fun E => zhs1 E "java/lang/IllegalArgumentException" (some ((1 : Int32), w, D1))) r))
set_option maxHeartbeats 4000000 in
theorem c_LW_runScript (z : zT) (D : zD) (r0 : Nat) (x1 : Int32) (l2 : Int64) (r4 : Nat) : zMH Y_LW_runScript 9 1 6 (zqH z) (f_LW_runScript z.2 D r0 x1 l2 r4) [.ref r0, .int x1, .long l2, .ref r4] z D := by
  refine zMH_of (by decide +kernel) (Nat.le_of_ble_eq_true rfl) (fun _ _ _ _ h => nomatch h.1) (fun K => ?_)
  unfold f_LW_runScript
  refine z_aload (pc := 0) d_LW_runScript_0 3 rfl ?_
  refine z_iconst (pc := 2) d_LW_runScript_2 ki_0 ?_
  refine z_aload_n (pc := 3) d_LW_runScript_3 rfl 0 rfl ?_
  refine z_iload_n (pc := 4) d_LW_runScript_4 rfl 1 rfl ?_
  refine z_lload_n (pc := 5) d_LW_runScript_5 rfl 2 rfl ?_
  refine z_callX1 (pc := 6) (kc2 := 0) (ks2 := 0) [.int x1, .long l2] lkV_LW_80 rfl (c_SF_runScript z D r0 x1 l2) (by decide) (by decide) (by decide) rfl rfl (Nat.le_of_ble_eq_true rfl) d_LW_runScript_6 ct_LW_runScript_1 (fun v D1 z1 e1 t1 => ?_) (fun D1 z1 q1 e1 t1 => ?_)
  · rw [← e1]
    refine z_i2l (pc := 9) d_LW_runScript_9 ?_
    refine z_lastore (pc := 10) d_LW_runScript_10 (fun z2 h2 => ?_)
    refine z_goto (pc := 11) (tgt := 18) d_LW_runScript_11 (by decide) ?_
    refine z_iconst (pc := 18) d_LW_runScript_18 ki_0 ?_
    exact z_hret (pc := 19) (by omega) d_LW_runScript_19 rfl
  · rw [← e1]
    refine z_astore (pc := 14) d_LW_runScript_14 (by decide) (lv' := [(5, .ref q1), (0, .ref r0), (1, .int x1), (2, .long l2), (4, .ref r4)]) rfl ?_
    refine z_iconst (pc := 16) d_LW_runScript_16 ki_1 ?_
    exact z_hret (pc := 17) t1 d_LW_runScript_17 rfl
theorem d_LW_simulate_0 : decode Y_LW_simulate.2.1 0 = .ok (.aload 4, 2) := by decide +kernel
theorem d_LW_simulate_2 : decode Y_LW_simulate.2.1 2 = .ok (.iconst (0), 1) := by decide +kernel
theorem d_LW_simulate_3 : decode Y_LW_simulate.2.1 3 = .ok (.aload_n 0, 1) := by decide +kernel
theorem d_LW_simulate_4 : decode Y_LW_simulate.2.1 4 = .ok (.lload_n 1, 1) := by decide +kernel
theorem d_LW_simulate_5 : decode Y_LW_simulate.2.1 5 = .ok (.iload_n 3, 1) := by decide +kernel
theorem d_LW_simulate_6 : decode Y_LW_simulate.2.1 6 = .ok (.invokevirtual 84, 3) := by decide +kernel
theorem d_LW_simulate_9 : decode Y_LW_simulate.2.1 9 = .ok (.i2l, 1) := by decide +kernel
theorem d_LW_simulate_10 : decode Y_LW_simulate.2.1 10 = .ok (.lastore, 1) := by decide +kernel
theorem d_LW_simulate_11 : decode Y_LW_simulate.2.1 11 = .ok (.goto (7), 3) := by decide +kernel
theorem d_LW_simulate_14 : decode Y_LW_simulate.2.1 14 = .ok (.astore 5, 2) := by decide +kernel
theorem d_LW_simulate_16 : decode Y_LW_simulate.2.1 16 = .ok (.iconst (1), 1) := by decide +kernel
theorem d_LW_simulate_17 : decode Y_LW_simulate.2.1 17 = .ok (.ireturn, 1) := by decide +kernel
theorem d_LW_simulate_18 : decode Y_LW_simulate.2.1 18 = .ok (.iconst (0), 1) := by decide +kernel
theorem d_LW_simulate_19 : decode Y_LW_simulate.2.1 19 = .ok (.ireturn, 1) := by decide +kernel
def f_LW_simulate (w : zW) (D : zD) (r0 : Nat) (l1 : Int64) (x3 : Int32) (r4 : Nat) : Option (Int32 × zW × zD) := zobj w 0 r0 (zcx (f_SF_simulate w D r0 l1 x3) (fun r D1 => Sum.elim (fun v => zastL w r4 (0 : Int32) v.toInt64 (fun w1 => some ((0 : Int32), w1, D1))) (fun E => zhs1 E "java/lang/IllegalArgumentException" (some ((1 : Int32), w, D1))) r))
set_option maxHeartbeats 4000000 in
theorem c_LW_simulate (z : zT) (D : zD) (r0 : Nat) (l1 : Int64) (x3 : Int32) (r4 : Nat) : zMH Y_LW_simulate 9 1 6 (zqH z) (f_LW_simulate z.2 D r0 l1 x3 r4) [.ref r0, .long l1, .int x3, .ref r4] z D := by
  refine zMH_of (by decide +kernel) (Nat.le_of_ble_eq_true rfl) (fun _ _ _ _ h => nomatch h.1) (fun K => ?_)
  unfold f_LW_simulate
  refine z_aload (pc := 0) d_LW_simulate_0 3 rfl ?_
  refine z_iconst (pc := 2) d_LW_simulate_2 ki_0 ?_
  refine z_aload_n (pc := 3) d_LW_simulate_3 rfl 0 rfl ?_
  refine z_lload_n (pc := 4) d_LW_simulate_4 rfl 1 rfl ?_
  refine z_iload_n (pc := 5) d_LW_simulate_5 rfl 2 rfl ?_
  refine z_callX1 (pc := 6) (kc2 := 0) (ks2 := 0) [.long l1, .int x3] lkV_LW_84 rfl (c_SF_simulate z D r0 l1 x3) (by decide) (by decide) (by decide) rfl rfl (Nat.le_of_ble_eq_true rfl) d_LW_simulate_6 ct_LW_simulate_1 (fun v D1 z1 e1 t1 => ?_) (fun D1 z1 q1 e1 t1 => ?_)
  · rw [← e1]
    refine z_i2l (pc := 9) d_LW_simulate_9 ?_
    refine z_lastore (pc := 10) d_LW_simulate_10 (fun z2 h2 => ?_)
    refine z_goto (pc := 11) (tgt := 18) d_LW_simulate_11 (by decide) ?_
    refine z_iconst (pc := 18) d_LW_simulate_18 ki_0 ?_
    exact z_hret (pc := 19) (by omega) d_LW_simulate_19 rfl
  · rw [← e1]
    refine z_astore (pc := 14) d_LW_simulate_14 (by decide) (lv' := [(5, .ref q1), (0, .ref r0), (1, .long l1), (3, .int x3), (4, .ref r4)]) rfl ?_
    refine z_iconst (pc := 16) d_LW_simulate_16 ki_1 ?_
    exact z_hret (pc := 17) t1 d_LW_simulate_17 rfl
theorem d_LW_save_0 : decode Y_LW_save.2.1 0 = .ok (.aload_n 2, 1) := by decide +kernel
theorem d_LW_save_1 : decode Y_LW_save.2.1 1 = .ok (.iconst (0), 1) := by decide +kernel
theorem d_LW_save_2 : decode Y_LW_save.2.1 2 = .ok (.aload_n 0, 1) := by decide +kernel
theorem d_LW_save_3 : decode Y_LW_save.2.1 3 = .ok (.iload_n 1, 1) := by decide +kernel
theorem d_LW_save_4 : decode Y_LW_save.2.1 4 = .ok (.invokevirtual 88, 3) := by decide +kernel
theorem d_LW_save_7 : decode Y_LW_save.2.1 7 = .ok (.i2l, 1) := by decide +kernel
theorem d_LW_save_8 : decode Y_LW_save.2.1 8 = .ok (.lastore, 1) := by decide +kernel
theorem d_LW_save_9 : decode Y_LW_save.2.1 9 = .ok (.goto (6), 3) := by decide +kernel
theorem d_LW_save_12 : decode Y_LW_save.2.1 12 = .ok (.astore_n 3, 1) := by decide +kernel
theorem d_LW_save_13 : decode Y_LW_save.2.1 13 = .ok (.iconst (1), 1) := by decide +kernel
theorem d_LW_save_14 : decode Y_LW_save.2.1 14 = .ok (.ireturn, 1) := by decide +kernel
theorem d_LW_save_15 : decode Y_LW_save.2.1 15 = .ok (.iconst (0), 1) := by decide +kernel
theorem d_LW_save_16 : decode Y_LW_save.2.1 16 = .ok (.ireturn, 1) := by decide +kernel
def f_LW_save (w : zW) (D : zD) (r0 : Nat) (x1 : Int32) (r2 : Nat) : Option (Int32 × zW × zD) := zobj w 0 r0 (zcx (f_SF_save w D r0 x1) (fun r D1 => Sum.elim (fun v => zastL w r2 (0 : Int32) v.toInt64 (fun w1 => some ((0 : Int32), w1, D1))) (fun E => zhs1 E "java/lang/IndexOutOfBoundsException" (some ((1 : Int32), w, D1))) r))
set_option maxHeartbeats 4000000 in
theorem c_LW_save (z : zT) (D : zD) (r0 : Nat) (x1 : Int32) (r2 : Nat) : zMH Y_LW_save 9 1 6 (zqH z) (f_LW_save z.2 D r0 x1 r2) [.ref r0, .int x1, .ref r2] z D := by
  refine zMH_of (by decide +kernel) (Nat.le_of_ble_eq_true rfl) (fun _ _ _ _ h => nomatch h.1) (fun K => ?_)
  unfold f_LW_save
  refine z_aload_n (pc := 0) d_LW_save_0 rfl 2 rfl ?_
  refine z_iconst (pc := 1) d_LW_save_1 ki_0 ?_
  refine z_aload_n (pc := 2) d_LW_save_2 rfl 0 rfl ?_
  refine z_iload_n (pc := 3) d_LW_save_3 rfl 1 rfl ?_
  refine z_callX1 (pc := 4) (kc2 := 0) (ks2 := 0) [.int x1] lkV_LW_88 rfl (c_SF_save z D r0 x1) (by decide) (by decide) (by decide) rfl rfl (Nat.le_of_ble_eq_true rfl) d_LW_save_4 ct_LW_save_1 (fun v D1 z1 e1 t1 => ?_) (fun D1 z1 q1 e1 t1 => ?_)
  · rw [← e1]
    refine z_i2l (pc := 7) d_LW_save_7 ?_
    refine z_lastore (pc := 8) d_LW_save_8 (fun z2 h2 => ?_)
    refine z_goto (pc := 9) (tgt := 15) d_LW_save_9 (by decide) ?_
    refine z_iconst (pc := 15) d_LW_save_15 ki_0 ?_
    exact z_hret (pc := 16) (by omega) d_LW_save_16 rfl
  · rw [← e1]
    refine z_astore_n (pc := 12) d_LW_save_12 rfl (by decide) (lv' := [(3, .ref q1), (0, .ref r0), (1, .int x1), (2, .ref r2)]) rfl ?_
    refine z_iconst (pc := 13) d_LW_save_13 ki_1 ?_
    exact z_hret (pc := 14) t1 d_LW_save_14 rfl
theorem d_LW_restore_0 : decode Y_LW_restore.2.1 0 = .ok (.aload_n 2, 1) := by decide +kernel
theorem d_LW_restore_1 : decode Y_LW_restore.2.1 1 = .ok (.iconst (0), 1) := by decide +kernel
theorem d_LW_restore_2 : decode Y_LW_restore.2.1 2 = .ok (.aload_n 0, 1) := by decide +kernel
theorem d_LW_restore_3 : decode Y_LW_restore.2.1 3 = .ok (.iload_n 1, 1) := by decide +kernel
theorem d_LW_restore_4 : decode Y_LW_restore.2.1 4 = .ok (.invokevirtual 91, 3) := by decide +kernel
theorem d_LW_restore_7 : decode Y_LW_restore.2.1 7 = .ok (.i2l, 1) := by decide +kernel
theorem d_LW_restore_8 : decode Y_LW_restore.2.1 8 = .ok (.lastore, 1) := by decide +kernel
theorem d_LW_restore_9 : decode Y_LW_restore.2.1 9 = .ok (.goto (9), 3) := by decide +kernel
theorem d_LW_restore_12 : decode Y_LW_restore.2.1 12 = .ok (.astore_n 3, 1) := by decide +kernel
theorem d_LW_restore_13 : decode Y_LW_restore.2.1 13 = .ok (.iconst (1), 1) := by decide +kernel
theorem d_LW_restore_14 : decode Y_LW_restore.2.1 14 = .ok (.ireturn, 1) := by decide +kernel
theorem d_LW_restore_15 : decode Y_LW_restore.2.1 15 = .ok (.astore_n 3, 1) := by decide +kernel
theorem d_LW_restore_16 : decode Y_LW_restore.2.1 16 = .ok (.iconst (2), 1) := by decide +kernel
theorem d_LW_restore_17 : decode Y_LW_restore.2.1 17 = .ok (.ireturn, 1) := by decide +kernel
theorem d_LW_restore_18 : decode Y_LW_restore.2.1 18 = .ok (.iconst (0), 1) := by decide +kernel
theorem d_LW_restore_19 : decode Y_LW_restore.2.1 19 = .ok (.ireturn, 1) := by decide +kernel
def f_LW_restore (w : zW) (D : zD) (r0 : Nat) (x1 : Int32) (r2 : Nat) : Option (Int32 × zW × zD) := zobj w 0 r0 (zcx (f_SF_restore w D r0 x1) (fun r D1 => Sum.elim (fun v => zastL w r2 (0 : Int32) v.toInt64 (fun w1 => some ((0 : Int32), w1, D1))) (fun E => zhs2 E "java/lang/IndexOutOfBoundsException" "java/lang/IllegalStateException" (some ((1 : Int32), w, D1)) (some ((2 : Int32), w, D1))) r))
set_option maxHeartbeats 4000000 in
theorem c_LW_restore (z : zT) (D : zD) (r0 : Nat) (x1 : Int32) (r2 : Nat) : zMH Y_LW_restore 9 1 6 (zqH z) (f_LW_restore z.2 D r0 x1 r2) [.ref r0, .int x1, .ref r2] z D := by
  refine zMH_of (by decide +kernel) (Nat.le_of_ble_eq_true rfl) (fun _ _ _ _ h => nomatch h.1) (fun K => ?_)
  unfold f_LW_restore
  refine z_aload_n (pc := 0) d_LW_restore_0 rfl 2 rfl ?_
  refine z_iconst (pc := 1) d_LW_restore_1 ki_0 ?_
  refine z_aload_n (pc := 2) d_LW_restore_2 rfl 0 rfl ?_
  refine z_iload_n (pc := 3) d_LW_restore_3 rfl 1 rfl ?_
  refine z_callX2 (pc := 4) (kc2 := 0) (ks2 := 0) [.int x1] lkV_LW_91 rfl (c_SF_restore z D r0 x1) (by decide) (by decide) (by decide) rfl rfl (Nat.le_of_ble_eq_true rfl) d_LW_restore_4 ct_LW_restore_1 ct_LW_restore_2 (fun v D1 z1 e1 t1 => ?_) (fun D1 z1 q1 e1 t1 => ?_) (fun D1 z1 q1 e1 t1 => ?_)
  · rw [← e1]
    refine z_i2l (pc := 7) d_LW_restore_7 ?_
    refine z_lastore (pc := 8) d_LW_restore_8 (fun z2 h2 => ?_)
    refine z_goto (pc := 9) (tgt := 18) d_LW_restore_9 (by decide) ?_
    refine z_iconst (pc := 18) d_LW_restore_18 ki_0 ?_
    exact z_hret (pc := 19) (by omega) d_LW_restore_19 rfl
  · rw [← e1]
    refine z_astore_n (pc := 12) d_LW_restore_12 rfl (by decide) (lv' := [(3, .ref q1), (0, .ref r0), (1, .int x1), (2, .ref r2)]) rfl ?_
    refine z_iconst (pc := 13) d_LW_restore_13 ki_1 ?_
    exact z_hret (pc := 14) t1 d_LW_restore_14 rfl
  · rw [← e1]
    refine z_astore_n (pc := 15) d_LW_restore_15 rfl (by decide) (lv' := [(3, .ref q1), (0, .ref r0), (1, .int x1), (2, .ref r2)]) rfl ?_
    refine z_iconst (pc := 16) d_LW_restore_16 ki_2 ?_
    exact z_hret (pc := 17) t1 d_LW_restore_17 rfl
