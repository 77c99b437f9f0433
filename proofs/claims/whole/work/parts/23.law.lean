theorem kb_31 : (Int8.ofInt (31)).toInt32 = (31 : Int32) := by decide +kernel
theorem kb_32 : (Int8.ofInt (32)).toInt32 = (32 : Int32) := by decide +kernel
theorem ki_6 : Int32.ofInt (6) = (6 : Int32) := by decide +kernel
def Y_LW_law : zY := (x, code, maxLocals, ret, [])
theorem w_cw_LW_append : Cond.codeWith Y_LW_append.1 Y_LW_append.2.1 Y_LW_append.2.2.1 Y_LW_append.2.2.2.1 Y_LW_append.2.2.2.2 ∈ zWd := zin 537 (by decide +kernel) rfl
theorem w_ini_LW : Cond.initialized "SirenFairLaw" ∈ zWd := zin 25 (by decide +kernel) rfl
theorem w_ml_LW_98 : Cond.methodLink "SirenFairLaw" 98 Y_LW_append.1 ∈ zWd := zin 535 (by decide +kernel) rfl
theorem w_st_LW_append : Cond.static Y_LW_append.1 ∈ zWd := zin 536 (by decide +kernel) rfl
theorem lkH_LW_98 : zlkH "SirenFairLaw" 98 Y_LW_append 3 := ⟨w_cw_LW_append, w_ini_LW, by decide +kernel, by decide +kernel, by decide, w_ml_LW_98, w_st_LW_append⟩
theorem w_c_MD_append : Cond.code Y_MD_append.1 Y_MD_append.2.1 Y_MD_append.2.2.1 Y_MD_append.2.2.2.1 ∈ zWd := zin 996 (by decide +kernel) rfl
theorem lk_MD_append : zlk Y_MD_append 1 := ⟨w_c_MD_append, w_ini_MD, by decide +kernel, by decide +kernel, by decide⟩
theorem w_ml_LW_103 : Cond.methodLink "SirenFairLaw" 103 Y_MD_append.1 ∈ zWd := zin 993 (by decide +kernel) rfl
theorem w_im_MD_append : Cond.instanceMethod Y_MD_append.1 ∈ zWd := zin 994 (by decide +kernel) rfl
theorem w_sel_MD_append : Cond.selects "SirenFairModel" Y_MD_append.1 Y_MD_append.1 ∈ zWd := zin 995 (by decide +kernel) rfl
theorem lkV_LW_103 : zlkV "SirenFairLaw" 103 Y_MD_append 1 := ⟨lk_MD_append, w_ml_LW_103, w_im_MD_append, w_sel_MD_append⟩
theorem w_c_MD_thrown : Cond.code Y_MD_thrown.1 Y_MD_thrown.2.1 Y_MD_thrown.2.2.1 Y_MD_thrown.2.2.2.1 ∈ zWd := zin 992 (by decide +kernel) rfl
theorem lk_MD_thrown : zlk Y_MD_thrown 0 := ⟨w_c_MD_thrown, w_ini_MD, by decide +kernel, by decide +kernel, by decide⟩
theorem w_ml_LW_104 : Cond.methodLink "SirenFairLaw" 104 Y_MD_thrown.1 ∈ zWd := zin 989 (by decide +kernel) rfl
theorem w_im_MD_thrown : Cond.instanceMethod Y_MD_thrown.1 ∈ zWd := zin 990 (by decide +kernel) rfl
theorem w_sel_MD_thrown : Cond.selects "SirenFairModel" Y_MD_thrown.1 Y_MD_thrown.1 ∈ zWd := zin 991 (by decide +kernel) rfl
theorem lkV_LW_104 : zlkV "SirenFairLaw" 104 Y_MD_thrown 0 := ⟨lk_MD_thrown, w_ml_LW_104, w_im_MD_thrown, w_sel_MD_thrown⟩
theorem w_c_SF_clearText : Cond.code Y_SF_clearText.1 Y_SF_clearText.2.1 Y_SF_clearText.2.2.1 Y_SF_clearText.2.2.2.1 ∈ zWd := zin 353 (by decide +kernel) rfl
theorem lk_SF_clearText : zlk Y_SF_clearText 0 := ⟨w_c_SF_clearText, w_ini_SF, by decide +kernel, by decide +kernel, by decide⟩
theorem w_ml_LW_107 : Cond.methodLink "SirenFairLaw" 107 Y_SF_clearText.1 ∈ zWd := zin 350 (by decide +kernel) rfl
theorem w_im_SF_clearText : Cond.instanceMethod Y_SF_clearText.1 ∈ zWd := zin 351 (by decide +kernel) rfl
theorem w_sel_SF_clearText : Cond.selects "SirenFair" Y_SF_clearText.1 Y_SF_clearText.1 ∈ zWd := zin 352 (by decide +kernel) rfl
theorem lkV_LW_107 : zlkV "SirenFairLaw" 107 Y_SF_clearText 0 := ⟨lk_SF_clearText, w_ml_LW_107, w_im_SF_clearText, w_sel_SF_clearText⟩
theorem w_c_MD_clearText : Cond.code Y_MD_clearText.1 Y_MD_clearText.2.1 Y_MD_clearText.2.2.1 Y_MD_clearText.2.2.2.1 ∈ zWd := zin 1008 (by decide +kernel) rfl
theorem lk_MD_clearText : zlk Y_MD_clearText 0 := ⟨w_c_MD_clearText, w_ini_MD, by decide +kernel, by decide +kernel, by decide⟩
theorem w_ml_LW_110 : Cond.methodLink "SirenFairLaw" 110 Y_MD_clearText.1 ∈ zWd := zin 1005 (by decide +kernel) rfl
theorem w_im_MD_clearText : Cond.instanceMethod Y_MD_clearText.1 ∈ zWd := zin 1006 (by decide +kernel) rfl
theorem w_sel_MD_clearText : Cond.selects "SirenFairModel" Y_MD_clearText.1 Y_MD_clearText.1 ∈ zWd := zin 1007 (by decide +kernel) rfl
theorem lkV_LW_110 : zlkV "SirenFairLaw" 110 Y_MD_clearText 0 := ⟨lk_MD_clearText, w_ml_LW_110, w_im_MD_clearText, w_sel_MD_clearText⟩
theorem w_c_SF_errorPosition : Cond.code Y_SF_errorPosition.1 Y_SF_errorPosition.2.1 Y_SF_errorPosition.2.2.1 Y_SF_errorPosition.2.2.2.1 ∈ zWd := zin 357 (by decide +kernel) rfl
theorem lk_SF_errorPosition : zlk Y_SF_errorPosition 0 := ⟨w_c_SF_errorPosition, w_ini_SF, by decide +kernel, by decide +kernel, by decide⟩
theorem w_ml_LW_111 : Cond.methodLink "SirenFairLaw" 111 Y_SF_errorPosition.1 ∈ zWd := zin 354 (by decide +kernel) rfl
theorem w_im_SF_errorPosition : Cond.instanceMethod Y_SF_errorPosition.1 ∈ zWd := zin 355 (by decide +kernel) rfl
theorem w_sel_SF_errorPosition : Cond.selects "SirenFair" Y_SF_errorPosition.1 Y_SF_errorPosition.1 ∈ zWd := zin 356 (by decide +kernel) rfl
theorem lkV_LW_111 : zlkV "SirenFairLaw" 111 Y_SF_errorPosition 0 := ⟨lk_SF_errorPosition, w_ml_LW_111, w_im_SF_errorPosition, w_sel_SF_errorPosition⟩
theorem w_c_MD_errorPosition : Cond.code Y_MD_errorPosition.1 Y_MD_errorPosition.2.1 Y_MD_errorPosition.2.2.1 Y_MD_errorPosition.2.2.2.1 ∈ zWd := zin 1012 (by decide +kernel) rfl
theorem lk_MD_errorPosition : zlk Y_MD_errorPosition 0 := ⟨w_c_MD_errorPosition, w_ini_MD, by decide +kernel, by decide +kernel, by decide⟩
theorem w_ml_LW_114 : Cond.methodLink "SirenFairLaw" 114 Y_MD_errorPosition.1 ∈ zWd := zin 1009 (by decide +kernel) rfl
theorem w_im_MD_errorPosition : Cond.instanceMethod Y_MD_errorPosition.1 ∈ zWd := zin 1010 (by decide +kernel) rfl
theorem w_sel_MD_errorPosition : Cond.selects "SirenFairModel" Y_MD_errorPosition.1 Y_MD_errorPosition.1 ∈ zWd := zin 1011 (by decide +kernel) rfl
theorem lkV_LW_114 : zlkV "SirenFairLaw" 114 Y_MD_errorPosition 0 := ⟨lk_MD_errorPosition, w_ml_LW_114, w_im_MD_errorPosition, w_sel_MD_errorPosition⟩
theorem w_cw_LW_load : Cond.codeWith Y_LW_load.1 Y_LW_load.2.1 Y_LW_load.2.2.1 Y_LW_load.2.2.2.1 Y_LW_load.2.2.2.2 ∈ zWd := zin 637 (by decide +kernel) rfl
theorem w_ml_LW_115 : Cond.methodLink "SirenFairLaw" 115 Y_LW_load.1 ∈ zWd := zin 635 (by decide +kernel) rfl
theorem w_st_LW_load : Cond.static Y_LW_load.1 ∈ zWd := zin 636 (by decide +kernel) rfl
theorem lkH_LW_115 : zlkH "SirenFairLaw" 115 Y_LW_load 2 := ⟨w_cw_LW_load, w_ini_LW, by decide +kernel, by decide +kernel, by decide, w_ml_LW_115, w_st_LW_load⟩
theorem w_c_MD_load : Cond.code Y_MD_load.1 Y_MD_load.2.1 Y_MD_load.2.2.1 Y_MD_load.2.2.2.1 ∈ zWd := zin 1123 (by decide +kernel) rfl
theorem lk_MD_load : zlk Y_MD_load 0 := ⟨w_c_MD_load, w_ini_MD, by decide +kernel, by decide +kernel, by decide⟩
theorem w_ml_LW_118 : Cond.methodLink "SirenFairLaw" 118 Y_MD_load.1 ∈ zWd := zin 1120 (by decide +kernel) rfl
theorem w_im_MD_load : Cond.instanceMethod Y_MD_load.1 ∈ zWd := zin 1121 (by decide +kernel) rfl
theorem w_sel_MD_load : Cond.selects "SirenFairModel" Y_MD_load.1 Y_MD_load.1 ∈ zWd := zin 1122 (by decide +kernel) rfl
theorem lkV_LW_118 : zlkV "SirenFairLaw" 118 Y_MD_load 0 := ⟨lk_MD_load, w_ml_LW_118, w_im_MD_load, w_sel_MD_load⟩
theorem w_cw_LW_about : Cond.codeWith Y_LW_about.1 Y_LW_about.2.1 Y_LW_about.2.2.1 Y_LW_about.2.2.2.1 Y_LW_about.2.2.2.2 ∈ zWd := zin 679 (by decide +kernel) rfl
theorem w_ml_LW_119 : Cond.methodLink "SirenFairLaw" 119 Y_LW_about.1 ∈ zWd := zin 677 (by decide +kernel) rfl
theorem w_st_LW_about : Cond.static Y_LW_about.1 ∈ zWd := zin 678 (by decide +kernel) rfl
theorem lkH_LW_119 : zlkH "SirenFairLaw" 119 Y_LW_about 3 := ⟨w_cw_LW_about, w_ini_LW, by decide +kernel, by decide +kernel, by decide, w_ml_LW_119, w_st_LW_about⟩
theorem w_c_MD_about : Cond.code Y_MD_about.1 Y_MD_about.2.1 Y_MD_about.2.2.1 Y_MD_about.2.2.2.1 ∈ zWd := zin 1130 (by decide +kernel) rfl
theorem lk_MD_about : zlk Y_MD_about 1 := ⟨w_c_MD_about, w_ini_MD, by decide +kernel, by decide +kernel, by decide⟩
theorem w_ml_LW_121 : Cond.methodLink "SirenFairLaw" 121 Y_MD_about.1 ∈ zWd := zin 1127 (by decide +kernel) rfl
theorem w_im_MD_about : Cond.instanceMethod Y_MD_about.1 ∈ zWd := zin 1128 (by decide +kernel) rfl
theorem w_sel_MD_about : Cond.selects "SirenFairModel" Y_MD_about.1 Y_MD_about.1 ∈ zWd := zin 1129 (by decide +kernel) rfl
theorem lkV_LW_121 : zlkV "SirenFairLaw" 121 Y_MD_about 1 := ⟨lk_MD_about, w_ml_LW_121, w_im_MD_about, w_sel_MD_about⟩
theorem w_cw_LW_sirenOf : Cond.codeWith Y_LW_sirenOf.1 Y_LW_sirenOf.2.1 Y_LW_sirenOf.2.2.1 Y_LW_sirenOf.2.2.2.1 Y_LW_sirenOf.2.2.2.2 ∈ zWd := zin 687 (by decide +kernel) rfl
theorem w_ml_LW_122 : Cond.methodLink "SirenFairLaw" 122 Y_LW_sirenOf.1 ∈ zWd := zin 685 (by decide +kernel) rfl
theorem w_st_LW_sirenOf : Cond.static Y_LW_sirenOf.1 ∈ zWd := zin 686 (by decide +kernel) rfl
theorem lkH_LW_122 : zlkH "SirenFairLaw" 122 Y_LW_sirenOf 4 := ⟨w_cw_LW_sirenOf, w_ini_LW, by decide +kernel, by decide +kernel, by decide, w_ml_LW_122, w_st_LW_sirenOf⟩
theorem w_c_MD_sirenOf : Cond.code Y_MD_sirenOf.1 Y_MD_sirenOf.2.1 Y_MD_sirenOf.2.2.1 Y_MD_sirenOf.2.2.2.1 ∈ zWd := zin 1134 (by decide +kernel) rfl
theorem lk_MD_sirenOf : zlk Y_MD_sirenOf 2 := ⟨w_c_MD_sirenOf, w_ini_MD, by decide +kernel, by decide +kernel, by decide⟩
theorem w_ml_LW_125 : Cond.methodLink "SirenFairLaw" 125 Y_MD_sirenOf.1 ∈ zWd := zin 1131 (by decide +kernel) rfl
theorem w_im_MD_sirenOf : Cond.instanceMethod Y_MD_sirenOf.1 ∈ zWd := zin 1132 (by decide +kernel) rfl
theorem w_sel_MD_sirenOf : Cond.selects "SirenFairModel" Y_MD_sirenOf.1 Y_MD_sirenOf.1 ∈ zWd := zin 1133 (by decide +kernel) rfl
theorem lkV_LW_125 : zlkV "SirenFairLaw" 125 Y_MD_sirenOf 2 := ⟨lk_MD_sirenOf, w_ml_LW_125, w_im_MD_sirenOf, w_sel_MD_sirenOf⟩
theorem w_cw_LW_hearerOf : Cond.codeWith Y_LW_hearerOf.1 Y_LW_hearerOf.2.1 Y_LW_hearerOf.2.2.1 Y_LW_hearerOf.2.2.2.1 Y_LW_hearerOf.2.2.2.2 ∈ zWd := zin 715 (by decide +kernel) rfl
theorem w_ml_LW_126 : Cond.methodLink "SirenFairLaw" 126 Y_LW_hearerOf.1 ∈ zWd := zin 713 (by decide +kernel) rfl
theorem w_st_LW_hearerOf : Cond.static Y_LW_hearerOf.1 ∈ zWd := zin 714 (by decide +kernel) rfl
theorem lkH_LW_126 : zlkH "SirenFairLaw" 126 Y_LW_hearerOf 4 := ⟨w_cw_LW_hearerOf, w_ini_LW, by decide +kernel, by decide +kernel, by decide, w_ml_LW_126, w_st_LW_hearerOf⟩
theorem w_c_MD_hearerOf : Cond.code Y_MD_hearerOf.1 Y_MD_hearerOf.2.1 Y_MD_hearerOf.2.2.1 Y_MD_hearerOf.2.2.2.1 ∈ zWd := zin 1138 (by decide +kernel) rfl
theorem lk_MD_hearerOf : zlk Y_MD_hearerOf 2 := ⟨w_c_MD_hearerOf, w_ini_MD, by decide +kernel, by decide +kernel, by decide⟩
theorem w_ml_LW_128 : Cond.methodLink "SirenFairLaw" 128 Y_MD_hearerOf.1 ∈ zWd := zin 1135 (by decide +kernel) rfl
theorem w_im_MD_hearerOf : Cond.instanceMethod Y_MD_hearerOf.1 ∈ zWd := zin 1136 (by decide +kernel) rfl
theorem w_sel_MD_hearerOf : Cond.selects "SirenFairModel" Y_MD_hearerOf.1 Y_MD_hearerOf.1 ∈ zWd := zin 1137 (by decide +kernel) rfl
theorem lkV_LW_128 : zlkV "SirenFairLaw" 128 Y_MD_hearerOf 2 := ⟨lk_MD_hearerOf, w_ml_LW_128, w_im_MD_hearerOf, w_sel_MD_hearerOf⟩
theorem w_cw_LW_wallOf : Cond.codeWith Y_LW_wallOf.1 Y_LW_wallOf.2.1 Y_LW_wallOf.2.2.1 Y_LW_wallOf.2.2.2.1 Y_LW_wallOf.2.2.2.2 ∈ zWd := zin 735 (by decide +kernel) rfl
theorem w_ml_LW_129 : Cond.methodLink "SirenFairLaw" 129 Y_LW_wallOf.1 ∈ zWd := zin 733 (by decide +kernel) rfl
theorem w_st_LW_wallOf : Cond.static Y_LW_wallOf.1 ∈ zWd := zin 734 (by decide +kernel) rfl
theorem lkH_LW_129 : zlkH "SirenFairLaw" 129 Y_LW_wallOf 4 := ⟨w_cw_LW_wallOf, w_ini_LW, by decide +kernel, by decide +kernel, by decide, w_ml_LW_129, w_st_LW_wallOf⟩
theorem w_c_MD_wallOf : Cond.code Y_MD_wallOf.1 Y_MD_wallOf.2.1 Y_MD_wallOf.2.2.1 Y_MD_wallOf.2.2.2.1 ∈ zWd := zin 1149 (by decide +kernel) rfl
theorem lk_MD_wallOf : zlk Y_MD_wallOf 2 := ⟨w_c_MD_wallOf, w_ini_MD, by decide +kernel, by decide +kernel, by decide⟩
theorem w_ml_LW_131 : Cond.methodLink "SirenFairLaw" 131 Y_MD_wallOf.1 ∈ zWd := zin 1146 (by decide +kernel) rfl
theorem w_im_MD_wallOf : Cond.instanceMethod Y_MD_wallOf.1 ∈ zWd := zin 1147 (by decide +kernel) rfl
theorem w_sel_MD_wallOf : Cond.selects "SirenFairModel" Y_MD_wallOf.1 Y_MD_wallOf.1 ∈ zWd := zin 1148 (by decide +kernel) rfl
theorem lkV_LW_131 : zlkV "SirenFairLaw" 131 Y_MD_wallOf 2 := ⟨lk_MD_wallOf, w_ml_LW_131, w_im_MD_wallOf, w_sel_MD_wallOf⟩
theorem w_cw_LW_pulse : Cond.codeWith Y_LW_pulse.1 Y_LW_pulse.2.1 Y_LW_pulse.2.2.1 Y_LW_pulse.2.2.2.1 Y_LW_pulse.2.2.2.2 ∈ zWd := zin 748 (by decide +kernel) rfl
theorem w_ml_LW_132 : Cond.methodLink "SirenFairLaw" 132 Y_LW_pulse.1 ∈ zWd := zin 746 (by decide +kernel) rfl
theorem w_st_LW_pulse : Cond.static Y_LW_pulse.1 ∈ zWd := zin 747 (by decide +kernel) rfl
theorem lkH_LW_132 : zlkH "SirenFairLaw" 132 Y_LW_pulse 4 := ⟨w_cw_LW_pulse, w_ini_LW, by decide +kernel, by decide +kernel, by decide, w_ml_LW_132, w_st_LW_pulse⟩
theorem w_c_MD_pulse : Cond.code Y_MD_pulse.1 Y_MD_pulse.2.1 Y_MD_pulse.2.2.1 Y_MD_pulse.2.2.2.1 ∈ zWd := zin 1153 (by decide +kernel) rfl
theorem lk_MD_pulse : zlk Y_MD_pulse 2 := ⟨w_c_MD_pulse, w_ini_MD, by decide +kernel, by decide +kernel, by decide⟩
theorem w_ml_LW_134 : Cond.methodLink "SirenFairLaw" 134 Y_MD_pulse.1 ∈ zWd := zin 1150 (by decide +kernel) rfl
theorem w_im_MD_pulse : Cond.instanceMethod Y_MD_pulse.1 ∈ zWd := zin 1151 (by decide +kernel) rfl
theorem w_sel_MD_pulse : Cond.selects "SirenFairModel" Y_MD_pulse.1 Y_MD_pulse.1 ∈ zWd := zin 1152 (by decide +kernel) rfl
theorem lkV_LW_134 : zlkV "SirenFairLaw" 134 Y_MD_pulse 2 := ⟨lk_MD_pulse, w_ml_LW_134, w_im_MD_pulse, w_sel_MD_pulse⟩
theorem w_cw_LW_heard : Cond.codeWith Y_LW_heard.1 Y_LW_heard.2.1 Y_LW_heard.2.2.1 Y_LW_heard.2.2.2.1 Y_LW_heard.2.2.2.2 ∈ zWd := zin 757 (by decide +kernel) rfl
theorem w_ml_LW_135 : Cond.methodLink "SirenFairLaw" 135 Y_LW_heard.1 ∈ zWd := zin 755 (by decide +kernel) rfl
theorem w_st_LW_heard : Cond.static Y_LW_heard.1 ∈ zWd := zin 756 (by decide +kernel) rfl
theorem lkH_LW_135 : zlkH "SirenFairLaw" 135 Y_LW_heard 5 := ⟨w_cw_LW_heard, w_ini_LW, by decide +kernel, by decide +kernel, by decide, w_ml_LW_135, w_st_LW_heard⟩
theorem w_c_MD_heard : Cond.code Y_MD_heard.1 Y_MD_heard.2.1 Y_MD_heard.2.2.1 Y_MD_heard.2.2.2.1 ∈ zWd := zin 1157 (by decide +kernel) rfl
theorem lk_MD_heard : zlk Y_MD_heard 3 := ⟨w_c_MD_heard, w_ini_MD, by decide +kernel, by decide +kernel, by decide⟩
theorem w_ml_LW_138 : Cond.methodLink "SirenFairLaw" 138 Y_MD_heard.1 ∈ zWd := zin 1154 (by decide +kernel) rfl
theorem w_im_MD_heard : Cond.instanceMethod Y_MD_heard.1 ∈ zWd := zin 1155 (by decide +kernel) rfl
theorem w_sel_MD_heard : Cond.selects "SirenFairModel" Y_MD_heard.1 Y_MD_heard.1 ∈ zWd := zin 1156 (by decide +kernel) rfl
theorem lkV_LW_138 : zlkV "SirenFairLaw" 138 Y_MD_heard 3 := ⟨lk_MD_heard, w_ml_LW_138, w_im_MD_heard, w_sel_MD_heard⟩
theorem w_cw_LW_siren : Cond.codeWith Y_LW_siren.1 Y_LW_siren.2.1 Y_LW_siren.2.2.1 Y_LW_siren.2.2.2.1 Y_LW_siren.2.2.2.2 ∈ zWd := zin 777 (by decide +kernel) rfl
theorem w_ml_LW_139 : Cond.methodLink "SirenFairLaw" 139 Y_LW_siren.1 ∈ zWd := zin 775 (by decide +kernel) rfl
theorem w_st_LW_siren : Cond.static Y_LW_siren.1 ∈ zWd := zin 776 (by decide +kernel) rfl
theorem lkH_LW_139 : zlkH "SirenFairLaw" 139 Y_LW_siren 7 := ⟨w_cw_LW_siren, w_ini_LW, by decide +kernel, by decide +kernel, by decide, w_ml_LW_139, w_st_LW_siren⟩
theorem w_c_MD_siren : Cond.code Y_MD_siren.1 Y_MD_siren.2.1 Y_MD_siren.2.2.1 Y_MD_siren.2.2.2.1 ∈ zWd := zin 1164 (by decide +kernel) rfl
theorem lk_MD_siren : zlk Y_MD_siren 5 := ⟨w_c_MD_siren, w_ini_MD, by decide +kernel, by decide +kernel, by decide⟩
theorem w_ml_LW_142 : Cond.methodLink "SirenFairLaw" 142 Y_MD_siren.1 ∈ zWd := zin 1161 (by decide +kernel) rfl
theorem w_im_MD_siren : Cond.instanceMethod Y_MD_siren.1 ∈ zWd := zin 1162 (by decide +kernel) rfl
theorem w_sel_MD_siren : Cond.selects "SirenFairModel" Y_MD_siren.1 Y_MD_siren.1 ∈ zWd := zin 1163 (by decide +kernel) rfl
theorem lkV_LW_142 : zlkV "SirenFairLaw" 142 Y_MD_siren 5 := ⟨lk_MD_siren, w_ml_LW_142, w_im_MD_siren, w_sel_MD_siren⟩
theorem w_cw_LW_hearer : Cond.codeWith Y_LW_hearer.1 Y_LW_hearer.2.1 Y_LW_hearer.2.2.1 Y_LW_hearer.2.2.2.1 Y_LW_hearer.2.2.2.2 ∈ zWd := zin 791 (by decide +kernel) rfl
theorem w_ml_LW_143 : Cond.methodLink "SirenFairLaw" 143 Y_LW_hearer.1 ∈ zWd := zin 789 (by decide +kernel) rfl
theorem w_st_LW_hearer : Cond.static Y_LW_hearer.1 ∈ zWd := zin 790 (by decide +kernel) rfl
theorem lkH_LW_143 : zlkH "SirenFairLaw" 143 Y_LW_hearer 6 := ⟨w_cw_LW_hearer, w_ini_LW, by decide +kernel, by decide +kernel, by decide, w_ml_LW_143, w_st_LW_hearer⟩
theorem w_c_MD_hearer : Cond.code Y_MD_hearer.1 Y_MD_hearer.2.1 Y_MD_hearer.2.2.1 Y_MD_hearer.2.2.2.1 ∈ zWd := zin 1180 (by decide +kernel) rfl
theorem lk_MD_hearer : zlk Y_MD_hearer 4 := ⟨w_c_MD_hearer, w_ini_MD, by decide +kernel, by decide +kernel, by decide⟩
theorem w_ml_LW_146 : Cond.methodLink "SirenFairLaw" 146 Y_MD_hearer.1 ∈ zWd := zin 1177 (by decide +kernel) rfl
theorem w_im_MD_hearer : Cond.instanceMethod Y_MD_hearer.1 ∈ zWd := zin 1178 (by decide +kernel) rfl
theorem w_sel_MD_hearer : Cond.selects "SirenFairModel" Y_MD_hearer.1 Y_MD_hearer.1 ∈ zWd := zin 1179 (by decide +kernel) rfl
theorem lkV_LW_146 : zlkV "SirenFairLaw" 146 Y_MD_hearer 4 := ⟨lk_MD_hearer, w_ml_LW_146, w_im_MD_hearer, w_sel_MD_hearer⟩
theorem w_c_MD_wall : Cond.code Y_MD_wall.1 Y_MD_wall.2.1 Y_MD_wall.2.2.1 Y_MD_wall.2.2.2.1 ∈ zWd := zin 1194 (by decide +kernel) rfl
theorem lk_MD_wall : zlk Y_MD_wall 2 := ⟨w_c_MD_wall, w_ini_MD, by decide +kernel, by decide +kernel, by decide⟩
theorem w_ml_LW_150 : Cond.methodLink "SirenFairLaw" 150 Y_MD_wall.1 ∈ zWd := zin 1191 (by decide +kernel) rfl
theorem w_im_MD_wall : Cond.instanceMethod Y_MD_wall.1 ∈ zWd := zin 1192 (by decide +kernel) rfl
theorem w_sel_MD_wall : Cond.selects "SirenFairModel" Y_MD_wall.1 Y_MD_wall.1 ∈ zWd := zin 1193 (by decide +kernel) rfl
theorem lkV_LW_150 : zlkV "SirenFairLaw" 150 Y_MD_wall 2 := ⟨lk_MD_wall, w_ml_LW_150, w_im_MD_wall, w_sel_MD_wall⟩
theorem w_cw_LW_wall : Cond.codeWith Y_LW_wall.1 Y_LW_wall.2.1 Y_LW_wall.2.2.1 Y_LW_wall.2.2.2.1 Y_LW_wall.2.2.2.2 ∈ zWd := zin 801 (by decide +kernel) rfl
theorem w_ml_LW_147 : Cond.methodLink "SirenFairLaw" 147 Y_LW_wall.1 ∈ zWd := zin 799 (by decide +kernel) rfl
theorem w_st_LW_wall : Cond.static Y_LW_wall.1 ∈ zWd := zin 800 (by decide +kernel) rfl
theorem lkH_LW_147 : zlkH "SirenFairLaw" 147 Y_LW_wall 4 := ⟨w_cw_LW_wall, w_ini_LW, by decide +kernel, by decide +kernel, by decide, w_ml_LW_147, w_st_LW_wall⟩
theorem w_c_MD_turn : Cond.code Y_MD_turn.1 Y_MD_turn.2.1 Y_MD_turn.2.2.1 Y_MD_turn.2.2.2.1 ∈ zWd := zin 1198 (by decide +kernel) rfl
theorem lk_MD_turn : zlk Y_MD_turn 2 := ⟨w_c_MD_turn, w_ini_MD, by decide +kernel, by decide +kernel, by decide⟩
theorem w_ml_LW_154 : Cond.methodLink "SirenFairLaw" 154 Y_MD_turn.1 ∈ zWd := zin 1195 (by decide +kernel) rfl
theorem w_im_MD_turn : Cond.instanceMethod Y_MD_turn.1 ∈ zWd := zin 1196 (by decide +kernel) rfl
theorem w_sel_MD_turn : Cond.selects "SirenFairModel" Y_MD_turn.1 Y_MD_turn.1 ∈ zWd := zin 1197 (by decide +kernel) rfl
theorem lkV_LW_154 : zlkV "SirenFairLaw" 154 Y_MD_turn 2 := ⟨lk_MD_turn, w_ml_LW_154, w_im_MD_turn, w_sel_MD_turn⟩
theorem w_cw_LW_turn : Cond.codeWith Y_LW_turn.1 Y_LW_turn.2.1 Y_LW_turn.2.2.1 Y_LW_turn.2.2.2.1 Y_LW_turn.2.2.2.2 ∈ zWd := zin 810 (by decide +kernel) rfl
theorem w_ml_LW_151 : Cond.methodLink "SirenFairLaw" 151 Y_LW_turn.1 ∈ zWd := zin 808 (by decide +kernel) rfl
theorem w_st_LW_turn : Cond.static Y_LW_turn.1 ∈ zWd := zin 809 (by decide +kernel) rfl
theorem lkH_LW_151 : zlkH "SirenFairLaw" 151 Y_LW_turn 4 := ⟨w_cw_LW_turn, w_ini_LW, by decide +kernel, by decide +kernel, by decide, w_ml_LW_151, w_st_LW_turn⟩
theorem w_cw_LW_walk : Cond.codeWith Y_LW_walk.1 Y_LW_walk.2.1 Y_LW_walk.2.2.1 Y_LW_walk.2.2.2.1 Y_LW_walk.2.2.2.2 ∈ zWd := zin 821 (by decide +kernel) rfl
theorem w_ml_LW_155 : Cond.methodLink "SirenFairLaw" 155 Y_LW_walk.1 ∈ zWd := zin 819 (by decide +kernel) rfl
theorem w_st_LW_walk : Cond.static Y_LW_walk.1 ∈ zWd := zin 820 (by decide +kernel) rfl
theorem lkH_LW_155 : zlkH "SirenFairLaw" 155 Y_LW_walk 5 := ⟨w_cw_LW_walk, w_ini_LW, by decide +kernel, by decide +kernel, by decide, w_ml_LW_155, w_st_LW_walk⟩
theorem w_c_MD_walk : Cond.code Y_MD_walk.1 Y_MD_walk.2.1 Y_MD_walk.2.2.1 Y_MD_walk.2.2.2.1 ∈ zWd := zin 1202 (by decide +kernel) rfl
theorem lk_MD_walk : zlk Y_MD_walk 3 := ⟨w_c_MD_walk, w_ini_MD, by decide +kernel, by decide +kernel, by decide⟩
theorem w_ml_LW_157 : Cond.methodLink "SirenFairLaw" 157 Y_MD_walk.1 ∈ zWd := zin 1199 (by decide +kernel) rfl
theorem w_im_MD_walk : Cond.instanceMethod Y_MD_walk.1 ∈ zWd := zin 1200 (by decide +kernel) rfl
theorem w_sel_MD_walk : Cond.selects "SirenFairModel" Y_MD_walk.1 Y_MD_walk.1 ∈ zWd := zin 1201 (by decide +kernel) rfl
theorem lkV_LW_157 : zlkV "SirenFairLaw" 157 Y_MD_walk 3 := ⟨lk_MD_walk, w_ml_LW_157, w_im_MD_walk, w_sel_MD_walk⟩
theorem w_cw_LW_ticks : Cond.codeWith Y_LW_ticks.1 Y_LW_ticks.2.1 Y_LW_ticks.2.2.1 Y_LW_ticks.2.2.2.1 Y_LW_ticks.2.2.2.2 ∈ zWd := zin 833 (by decide +kernel) rfl
theorem w_ml_LW_158 : Cond.methodLink "SirenFairLaw" 158 Y_LW_ticks.1 ∈ zWd := zin 831 (by decide +kernel) rfl
theorem w_st_LW_ticks : Cond.static Y_LW_ticks.1 ∈ zWd := zin 832 (by decide +kernel) rfl
theorem lkH_LW_158 : zlkH "SirenFairLaw" 158 Y_LW_ticks 3 := ⟨w_cw_LW_ticks, w_ini_LW, by decide +kernel, by decide +kernel, by decide, w_ml_LW_158, w_st_LW_ticks⟩
theorem w_c_MD_ticks : Cond.code Y_MD_ticks.1 Y_MD_ticks.2.1 Y_MD_ticks.2.2.1 Y_MD_ticks.2.2.2.1 ∈ zWd := zin 1209 (by decide +kernel) rfl
theorem lk_MD_ticks : zlk Y_MD_ticks 1 := ⟨w_c_MD_ticks, w_ini_MD, by decide +kernel, by decide +kernel, by decide⟩
theorem w_ml_LW_160 : Cond.methodLink "SirenFairLaw" 160 Y_MD_ticks.1 ∈ zWd := zin 1206 (by decide +kernel) rfl
theorem w_im_MD_ticks : Cond.instanceMethod Y_MD_ticks.1 ∈ zWd := zin 1207 (by decide +kernel) rfl
theorem w_sel_MD_ticks : Cond.selects "SirenFairModel" Y_MD_ticks.1 Y_MD_ticks.1 ∈ zWd := zin 1208 (by decide +kernel) rfl
theorem lkV_LW_160 : zlkV "SirenFairLaw" 160 Y_MD_ticks 1 := ⟨lk_MD_ticks, w_ml_LW_160, w_im_MD_ticks, w_sel_MD_ticks⟩
theorem w_cw_LW_set : Cond.codeWith Y_LW_set.1 Y_LW_set.2.1 Y_LW_set.2.2.1 Y_LW_set.2.2.2.1 Y_LW_set.2.2.2.2 ∈ zWd := zin 841 (by decide +kernel) rfl
theorem w_ml_LW_161 : Cond.methodLink "SirenFairLaw" 161 Y_LW_set.1 ∈ zWd := zin 839 (by decide +kernel) rfl
theorem w_st_LW_set : Cond.static Y_LW_set.1 ∈ zWd := zin 840 (by decide +kernel) rfl
theorem lkH_LW_161 : zlkH "SirenFairLaw" 161 Y_LW_set 4 := ⟨w_cw_LW_set, w_ini_LW, by decide +kernel, by decide +kernel, by decide, w_ml_LW_161, w_st_LW_set⟩
theorem w_c_MD_set : Cond.code Y_MD_set.1 Y_MD_set.2.1 Y_MD_set.2.2.1 Y_MD_set.2.2.2.1 ∈ zWd := zin 1214 (by decide +kernel) rfl
theorem lk_MD_set : zlk Y_MD_set 2 := ⟨w_c_MD_set, w_ini_MD, by decide +kernel, by decide +kernel, by decide⟩
theorem w_ml_LW_163 : Cond.methodLink "SirenFairLaw" 163 Y_MD_set.1 ∈ zWd := zin 1211 (by decide +kernel) rfl
theorem w_im_MD_set : Cond.instanceMethod Y_MD_set.1 ∈ zWd := zin 1212 (by decide +kernel) rfl
theorem w_sel_MD_set : Cond.selects "SirenFairModel" Y_MD_set.1 Y_MD_set.1 ∈ zWd := zin 1213 (by decide +kernel) rfl
theorem lkV_LW_163 : zlkV "SirenFairLaw" 163 Y_MD_set 2 := ⟨lk_MD_set, w_ml_LW_163, w_im_MD_set, w_sel_MD_set⟩
theorem w_cw_LW_undo : Cond.codeWith Y_LW_undo.1 Y_LW_undo.2.1 Y_LW_undo.2.2.1 Y_LW_undo.2.2.2.1 Y_LW_undo.2.2.2.2 ∈ zWd := zin 857 (by decide +kernel) rfl
theorem w_ml_LW_164 : Cond.methodLink "SirenFairLaw" 164 Y_LW_undo.1 ∈ zWd := zin 855 (by decide +kernel) rfl
theorem w_st_LW_undo : Cond.static Y_LW_undo.1 ∈ zWd := zin 856 (by decide +kernel) rfl
theorem lkH_LW_164 : zlkH "SirenFairLaw" 164 Y_LW_undo 2 := ⟨w_cw_LW_undo, w_ini_LW, by decide +kernel, by decide +kernel, by decide, w_ml_LW_164, w_st_LW_undo⟩
theorem w_c_MD_undo : Cond.code Y_MD_undo.1 Y_MD_undo.2.1 Y_MD_undo.2.2.1 Y_MD_undo.2.2.2.1 ∈ zWd := zin 1221 (by decide +kernel) rfl
theorem lk_MD_undo : zlk Y_MD_undo 0 := ⟨w_c_MD_undo, w_ini_MD, by decide +kernel, by decide +kernel, by decide⟩
theorem w_ml_LW_166 : Cond.methodLink "SirenFairLaw" 166 Y_MD_undo.1 ∈ zWd := zin 1218 (by decide +kernel) rfl
theorem w_im_MD_undo : Cond.instanceMethod Y_MD_undo.1 ∈ zWd := zin 1219 (by decide +kernel) rfl
theorem w_sel_MD_undo : Cond.selects "SirenFairModel" Y_MD_undo.1 Y_MD_undo.1 ∈ zWd := zin 1220 (by decide +kernel) rfl
theorem lkV_LW_166 : zlkV "SirenFairLaw" 166 Y_MD_undo 0 := ⟨lk_MD_undo, w_ml_LW_166, w_im_MD_undo, w_sel_MD_undo⟩
theorem w_cw_LW_sirenIn : Cond.codeWith Y_LW_sirenIn.1 Y_LW_sirenIn.2.1 Y_LW_sirenIn.2.2.1 Y_LW_sirenIn.2.2.2.1 Y_LW_sirenIn.2.2.2.2 ∈ zWd := zin 865 (by decide +kernel) rfl
theorem w_ml_LW_167 : Cond.methodLink "SirenFairLaw" 167 Y_LW_sirenIn.1 ∈ zWd := zin 863 (by decide +kernel) rfl
theorem w_st_LW_sirenIn : Cond.static Y_LW_sirenIn.1 ∈ zWd := zin 864 (by decide +kernel) rfl
theorem lkH_LW_167 : zlkH "SirenFairLaw" 167 Y_LW_sirenIn 5 := ⟨w_cw_LW_sirenIn, w_ini_LW, by decide +kernel, by decide +kernel, by decide, w_ml_LW_167, w_st_LW_sirenIn⟩
theorem w_c_MD_sirenIn : Cond.code Y_MD_sirenIn.1 Y_MD_sirenIn.2.1 Y_MD_sirenIn.2.2.1 Y_MD_sirenIn.2.2.2.1 ∈ zWd := zin 1225 (by decide +kernel) rfl
theorem lk_MD_sirenIn : zlk Y_MD_sirenIn 3 := ⟨w_c_MD_sirenIn, w_ini_MD, by decide +kernel, by decide +kernel, by decide⟩
theorem w_ml_LW_169 : Cond.methodLink "SirenFairLaw" 169 Y_MD_sirenIn.1 ∈ zWd := zin 1222 (by decide +kernel) rfl
theorem w_im_MD_sirenIn : Cond.instanceMethod Y_MD_sirenIn.1 ∈ zWd := zin 1223 (by decide +kernel) rfl
theorem w_sel_MD_sirenIn : Cond.selects "SirenFairModel" Y_MD_sirenIn.1 Y_MD_sirenIn.1 ∈ zWd := zin 1224 (by decide +kernel) rfl
theorem lkV_LW_169 : zlkV "SirenFairLaw" 169 Y_MD_sirenIn 3 := ⟨lk_MD_sirenIn, w_ml_LW_169, w_im_MD_sirenIn, w_sel_MD_sirenIn⟩
theorem w_cw_LW_heardIn : Cond.codeWith Y_LW_heardIn.1 Y_LW_heardIn.2.1 Y_LW_heardIn.2.2.1 Y_LW_heardIn.2.2.2.1 Y_LW_heardIn.2.2.2.2 ∈ zWd := zin 884 (by decide +kernel) rfl
theorem w_ml_LW_170 : Cond.methodLink "SirenFairLaw" 170 Y_LW_heardIn.1 ∈ zWd := zin 882 (by decide +kernel) rfl
theorem w_st_LW_heardIn : Cond.static Y_LW_heardIn.1 ∈ zWd := zin 883 (by decide +kernel) rfl
theorem lkH_LW_170 : zlkH "SirenFairLaw" 170 Y_LW_heardIn 4 := ⟨w_cw_LW_heardIn, w_ini_LW, by decide +kernel, by decide +kernel, by decide, w_ml_LW_170, w_st_LW_heardIn⟩
theorem w_c_MD_heardIn : Cond.code Y_MD_heardIn.1 Y_MD_heardIn.2.1 Y_MD_heardIn.2.2.1 Y_MD_heardIn.2.2.2.1 ∈ zWd := zin 1230 (by decide +kernel) rfl
theorem lk_MD_heardIn : zlk Y_MD_heardIn 2 := ⟨w_c_MD_heardIn, w_ini_MD, by decide +kernel, by decide +kernel, by decide⟩
theorem w_ml_LW_172 : Cond.methodLink "SirenFairLaw" 172 Y_MD_heardIn.1 ∈ zWd := zin 1227 (by decide +kernel) rfl
theorem w_im_MD_heardIn : Cond.instanceMethod Y_MD_heardIn.1 ∈ zWd := zin 1228 (by decide +kernel) rfl
theorem w_sel_MD_heardIn : Cond.selects "SirenFairModel" Y_MD_heardIn.1 Y_MD_heardIn.1 ∈ zWd := zin 1229 (by decide +kernel) rfl
theorem lkV_LW_172 : zlkV "SirenFairLaw" 172 Y_MD_heardIn 2 := ⟨lk_MD_heardIn, w_ml_LW_172, w_im_MD_heardIn, w_sel_MD_heardIn⟩
theorem w_c_SF_quietIn : Cond.code Y_SF_quietIn.1 Y_SF_quietIn.2.1 Y_SF_quietIn.2.2.1 Y_SF_quietIn.2.2.2.1 ∈ zWd := zin 397 (by decide +kernel) rfl
theorem lk_SF_quietIn : zlk Y_SF_quietIn 0 := ⟨w_c_SF_quietIn, w_ini_SF, by decide +kernel, by decide +kernel, by decide⟩
theorem w_ml_LW_173 : Cond.methodLink "SirenFairLaw" 173 Y_SF_quietIn.1 ∈ zWd := zin 394 (by decide +kernel) rfl
theorem w_im_SF_quietIn : Cond.instanceMethod Y_SF_quietIn.1 ∈ zWd := zin 395 (by decide +kernel) rfl
theorem w_sel_SF_quietIn : Cond.selects "SirenFair" Y_SF_quietIn.1 Y_SF_quietIn.1 ∈ zWd := zin 396 (by decide +kernel) rfl
theorem lkV_LW_173 : zlkV "SirenFairLaw" 173 Y_SF_quietIn 0 := ⟨lk_SF_quietIn, w_ml_LW_173, w_im_SF_quietIn, w_sel_SF_quietIn⟩
theorem w_c_MD_quietIn : Cond.code Y_MD_quietIn.1 Y_MD_quietIn.2.1 Y_MD_quietIn.2.2.1 Y_MD_quietIn.2.2.2.1 ∈ zWd := zin 1234 (by decide +kernel) rfl
theorem lk_MD_quietIn : zlk Y_MD_quietIn 0 := ⟨w_c_MD_quietIn, w_ini_MD, by decide +kernel, by decide +kernel, by decide⟩
theorem w_ml_LW_176 : Cond.methodLink "SirenFairLaw" 176 Y_MD_quietIn.1 ∈ zWd := zin 1231 (by decide +kernel) rfl
theorem w_im_MD_quietIn : Cond.instanceMethod Y_MD_quietIn.1 ∈ zWd := zin 1232 (by decide +kernel) rfl
theorem w_sel_MD_quietIn : Cond.selects "SirenFairModel" Y_MD_quietIn.1 Y_MD_quietIn.1 ∈ zWd := zin 1233 (by decide +kernel) rfl
theorem lkV_LW_176 : zlkV "SirenFairLaw" 176 Y_MD_quietIn 0 := ⟨lk_MD_quietIn, w_ml_LW_176, w_im_MD_quietIn, w_sel_MD_quietIn⟩
theorem w_cw_LW_leastSpeed : Cond.codeWith Y_LW_leastSpeed.1 Y_LW_leastSpeed.2.1 Y_LW_leastSpeed.2.2.1 Y_LW_leastSpeed.2.2.2.1 Y_LW_leastSpeed.2.2.2.2 ∈ zWd := zin 891 (by decide +kernel) rfl
theorem w_ml_LW_177 : Cond.methodLink "SirenFairLaw" 177 Y_LW_leastSpeed.1 ∈ zWd := zin 889 (by decide +kernel) rfl
theorem w_st_LW_leastSpeed : Cond.static Y_LW_leastSpeed.1 ∈ zWd := zin 890 (by decide +kernel) rfl
theorem lkH_LW_177 : zlkH "SirenFairLaw" 177 Y_LW_leastSpeed 3 := ⟨w_cw_LW_leastSpeed, w_ini_LW, by decide +kernel, by decide +kernel, by decide, w_ml_LW_177, w_st_LW_leastSpeed⟩
theorem w_c_MD_leastSpeed : Cond.code Y_MD_leastSpeed.1 Y_MD_leastSpeed.2.1 Y_MD_leastSpeed.2.2.1 Y_MD_leastSpeed.2.2.2.1 ∈ zWd := zin 1238 (by decide +kernel) rfl
theorem lk_MD_leastSpeed : zlk Y_MD_leastSpeed 1 := ⟨w_c_MD_leastSpeed, w_ini_MD, by decide +kernel, by decide +kernel, by decide⟩
theorem w_ml_LW_179 : Cond.methodLink "SirenFairLaw" 179 Y_MD_leastSpeed.1 ∈ zWd := zin 1235 (by decide +kernel) rfl
theorem w_im_MD_leastSpeed : Cond.instanceMethod Y_MD_leastSpeed.1 ∈ zWd := zin 1236 (by decide +kernel) rfl
theorem w_sel_MD_leastSpeed : Cond.selects "SirenFairModel" Y_MD_leastSpeed.1 Y_MD_leastSpeed.1 ∈ zWd := zin 1237 (by decide +kernel) rfl
theorem lkV_LW_179 : zlkV "SirenFairLaw" 179 Y_MD_leastSpeed 1 := ⟨lk_MD_leastSpeed, w_ml_LW_179, w_im_MD_leastSpeed, w_sel_MD_leastSpeed⟩
theorem w_k_LW_180 : Cond.constantLong "SirenFairLaw" 180 (4294967295) ∈ zWd := zin 1269 (by decide +kernel) rfl
theorem w_cw_LW_runScript : Cond.codeWith Y_LW_runScript.1 Y_LW_runScript.2.1 Y_LW_runScript.2.2.1 Y_LW_runScript.2.2.2.1 Y_LW_runScript.2.2.2.2 ∈ zWd := zin 902 (by decide +kernel) rfl
theorem w_ml_LW_182 : Cond.methodLink "SirenFairLaw" 182 Y_LW_runScript.1 ∈ zWd := zin 900 (by decide +kernel) rfl
theorem w_st_LW_runScript : Cond.static Y_LW_runScript.1 ∈ zWd := zin 901 (by decide +kernel) rfl
theorem lkH_LW_182 : zlkH "SirenFairLaw" 182 Y_LW_runScript 4 := ⟨w_cw_LW_runScript, w_ini_LW, by decide +kernel, by decide +kernel, by decide, w_ml_LW_182, w_st_LW_runScript⟩
theorem w_c_MD_runScript : Cond.code Y_MD_runScript.1 Y_MD_runScript.2.1 Y_MD_runScript.2.2.1 Y_MD_runScript.2.2.2.1 ∈ zWd := zin 1242 (by decide +kernel) rfl
theorem lk_MD_runScript : zlk Y_MD_runScript 2 := ⟨w_c_MD_runScript, w_ini_MD, by decide +kernel, by decide +kernel, by decide⟩
theorem w_ml_LW_185 : Cond.methodLink "SirenFairLaw" 185 Y_MD_runScript.1 ∈ zWd := zin 1239 (by decide +kernel) rfl
theorem w_im_MD_runScript : Cond.instanceMethod Y_MD_runScript.1 ∈ zWd := zin 1240 (by decide +kernel) rfl
theorem w_sel_MD_runScript : Cond.selects "SirenFairModel" Y_MD_runScript.1 Y_MD_runScript.1 ∈ zWd := zin 1241 (by decide +kernel) rfl
theorem lkV_LW_185 : zlkV "SirenFairLaw" 185 Y_MD_runScript 2 := ⟨lk_MD_runScript, w_ml_LW_185, w_im_MD_runScript, w_sel_MD_runScript⟩
theorem w_cw_LW_simulate : Cond.codeWith Y_LW_simulate.1 Y_LW_simulate.2.1 Y_LW_simulate.2.2.1 Y_LW_simulate.2.2.2.1 Y_LW_simulate.2.2.2.2 ∈ zWd := zin 916 (by decide +kernel) rfl
theorem w_ml_LW_186 : Cond.methodLink "SirenFairLaw" 186 Y_LW_simulate.1 ∈ zWd := zin 914 (by decide +kernel) rfl
theorem w_st_LW_simulate : Cond.static Y_LW_simulate.1 ∈ zWd := zin 915 (by decide +kernel) rfl
theorem lkH_LW_186 : zlkH "SirenFairLaw" 186 Y_LW_simulate 4 := ⟨w_cw_LW_simulate, w_ini_LW, by decide +kernel, by decide +kernel, by decide, w_ml_LW_186, w_st_LW_simulate⟩
theorem w_c_MD_simulate : Cond.code Y_MD_simulate.1 Y_MD_simulate.2.1 Y_MD_simulate.2.2.1 Y_MD_simulate.2.2.2.1 ∈ zWd := zin 1251 (by decide +kernel) rfl
theorem lk_MD_simulate : zlk Y_MD_simulate 2 := ⟨w_c_MD_simulate, w_ini_MD, by decide +kernel, by decide +kernel, by decide⟩
theorem w_ml_LW_189 : Cond.methodLink "SirenFairLaw" 189 Y_MD_simulate.1 ∈ zWd := zin 1248 (by decide +kernel) rfl
theorem w_im_MD_simulate : Cond.instanceMethod Y_MD_simulate.1 ∈ zWd := zin 1249 (by decide +kernel) rfl
theorem w_sel_MD_simulate : Cond.selects "SirenFairModel" Y_MD_simulate.1 Y_MD_simulate.1 ∈ zWd := zin 1250 (by decide +kernel) rfl
theorem lkV_LW_189 : zlkV "SirenFairLaw" 189 Y_MD_simulate 2 := ⟨lk_MD_simulate, w_ml_LW_189, w_im_MD_simulate, w_sel_MD_simulate⟩
theorem w_cw_LW_save : Cond.codeWith Y_LW_save.1 Y_LW_save.2.1 Y_LW_save.2.2.1 Y_LW_save.2.2.2.1 Y_LW_save.2.2.2.2 ∈ zWd := zin 932 (by decide +kernel) rfl
theorem w_ml_LW_190 : Cond.methodLink "SirenFairLaw" 190 Y_LW_save.1 ∈ zWd := zin 930 (by decide +kernel) rfl
theorem w_st_LW_save : Cond.static Y_LW_save.1 ∈ zWd := zin 931 (by decide +kernel) rfl
theorem lkH_LW_190 : zlkH "SirenFairLaw" 190 Y_LW_save 3 := ⟨w_cw_LW_save, w_ini_LW, by decide +kernel, by decide +kernel, by decide, w_ml_LW_190, w_st_LW_save⟩
theorem w_c_MD_save : Cond.code Y_MD_save.1 Y_MD_save.2.1 Y_MD_save.2.2.1 Y_MD_save.2.2.2.1 ∈ zWd := zin 1264 (by decide +kernel) rfl
theorem lk_MD_save : zlk Y_MD_save 1 := ⟨w_c_MD_save, w_ini_MD, by decide +kernel, by decide +kernel, by decide⟩
theorem w_ml_LW_192 : Cond.methodLink "SirenFairLaw" 192 Y_MD_save.1 ∈ zWd := zin 1261 (by decide +kernel) rfl
theorem w_im_MD_save : Cond.instanceMethod Y_MD_save.1 ∈ zWd := zin 1262 (by decide +kernel) rfl
theorem w_sel_MD_save : Cond.selects "SirenFairModel" Y_MD_save.1 Y_MD_save.1 ∈ zWd := zin 1263 (by decide +kernel) rfl
theorem lkV_LW_192 : zlkV "SirenFairLaw" 192 Y_MD_save 1 := ⟨lk_MD_save, w_ml_LW_192, w_im_MD_save, w_sel_MD_save⟩
theorem w_cw_LW_restore : Cond.codeWith Y_LW_restore.1 Y_LW_restore.2.1 Y_LW_restore.2.2.1 Y_LW_restore.2.2.2.1 Y_LW_restore.2.2.2.2 ∈ zWd := zin 940 (by decide +kernel) rfl
theorem w_ml_LW_193 : Cond.methodLink "SirenFairLaw" 193 Y_LW_restore.1 ∈ zWd := zin 938 (by decide +kernel) rfl
theorem w_st_LW_restore : Cond.static Y_LW_restore.1 ∈ zWd := zin 939 (by decide +kernel) rfl
theorem lkH_LW_193 : zlkH "SirenFairLaw" 193 Y_LW_restore 3 := ⟨w_cw_LW_restore, w_ini_LW, by decide +kernel, by decide +kernel, by decide, w_ml_LW_193, w_st_LW_restore⟩
theorem w_c_MD_restore : Cond.code Y_MD_restore.1 Y_MD_restore.2.1 Y_MD_restore.2.2.1 Y_MD_restore.2.2.2.1 ∈ zWd := zin 1268 (by decide +kernel) rfl
theorem lk_MD_restore : zlk Y_MD_restore 1 := ⟨w_c_MD_restore, w_ini_MD, by decide +kernel, by decide +kernel, by decide⟩
theorem w_ml_LW_195 : Cond.methodLink "SirenFairLaw" 195 Y_MD_restore.1 ∈ zWd := zin 1265 (by decide +kernel) rfl
theorem w_im_MD_restore : Cond.instanceMethod Y_MD_restore.1 ∈ zWd := zin 1266 (by decide +kernel) rfl
theorem w_sel_MD_restore : Cond.selects "SirenFairModel" Y_MD_restore.1 Y_MD_restore.1 ∈ zWd := zin 1267 (by decide +kernel) rfl
theorem lkV_LW_195 : zlkV "SirenFairLaw" 195 Y_MD_restore 1 := ⟨lk_MD_restore, w_ml_LW_195, w_im_MD_restore, w_sel_MD_restore⟩
theorem w_cl_LW_8 : Cond.classLink "SirenFairLaw" 8 "SirenFair" ∈ zWd := zin 45 (by decide +kernel) rfl
theorem w_inst_SF : Cond.instantiable "SirenFair" 9 ∈ zWd := zin 46 (by decide +kernel) rfl
theorem w_c_SF_init : Cond.code Y_SF_init.1 Y_SF_init.2.1 Y_SF_init.2.2.1 Y_SF_init.2.2.2.1 ∈ zWd := zin 49 (by decide +kernel) rfl
theorem lk_SF_init : zlk Y_SF_init 0 := ⟨w_c_SF_init, w_ini_SF, by decide +kernel, by decide +kernel, by decide⟩
theorem w_ml_LW_94 : Cond.methodLink "SirenFairLaw" 94 Y_SF_init.1 ∈ zWd := zin 47 (by decide +kernel) rfl
theorem w_im_SF_init : Cond.instanceMethod Y_SF_init.1 ∈ zWd := zin 48 (by decide +kernel) rfl
theorem lkI_LW_94 : zlkI "SirenFairLaw" 94 Y_SF_init 0 := ⟨lk_SF_init, w_ml_LW_94, w_im_SF_init, rfl, rfl⟩
theorem w_cl_LW_95 : Cond.classLink "SirenFairLaw" 95 "SirenFairModel" ∈ zWd := zin 946 (by decide +kernel) rfl
theorem w_inst_MD : Cond.instantiable "SirenFairModel" 11 ∈ zWd := zin 947 (by decide +kernel) rfl
theorem w_c_MD_init : Cond.code Y_MD_init.1 Y_MD_init.2.1 Y_MD_init.2.2.1 Y_MD_init.2.2.2.1 ∈ zWd := zin 950 (by decide +kernel) rfl
theorem lk_MD_init : zlk Y_MD_init 0 := ⟨w_c_MD_init, w_ini_MD, by decide +kernel, by decide +kernel, by decide⟩
theorem w_ml_LW_97 : Cond.methodLink "SirenFairLaw" 97 Y_MD_init.1 ∈ zWd := zin 948 (by decide +kernel) rfl
theorem w_im_MD_init : Cond.instanceMethod Y_MD_init.1 ∈ zWd := zin 949 (by decide +kernel) rfl
theorem lkI_LW_97 : zlkI "SirenFairLaw" 97 Y_MD_init 0 := ⟨lk_MD_init, w_ml_LW_97, w_im_MD_init, rfl, rfl⟩
theorem w_ac_long : Cond.arrayClass .long ∈ zWd := zin 1270 (by decide +kernel) rfl
theorem d_LW_law_0 : decode Y_LW_law.2.1 0 = .ok (.new 8, 3) := by decide +kernel
theorem d_LW_law_3 : decode Y_LW_law.2.1 3 = .ok (.dup, 1) := by decide +kernel
theorem d_LW_law_4 : decode Y_LW_law.2.1 4 = .ok (.invokespecial 94, 3) := by decide +kernel
theorem d_LW_law_7 : decode Y_LW_law.2.1 7 = .ok (.astore_n 1, 1) := by decide +kernel
theorem d_LW_law_8 : decode Y_LW_law.2.1 8 = .ok (.new 95, 3) := by decide +kernel
theorem d_LW_law_11 : decode Y_LW_law.2.1 11 = .ok (.dup, 1) := by decide +kernel
theorem d_LW_law_12 : decode Y_LW_law.2.1 12 = .ok (.invokespecial 97, 3) := by decide +kernel
theorem d_LW_law_15 : decode Y_LW_law.2.1 15 = .ok (.astore_n 2, 1) := by decide +kernel
theorem d_LW_law_16 : decode Y_LW_law.2.1 16 = .ok (.iconst (1), 1) := by decide +kernel
theorem d_LW_law_17 : decode Y_LW_law.2.1 17 = .ok (.newarray .long, 2) := by decide +kernel
theorem d_LW_law_19 : decode Y_LW_law.2.1 19 = .ok (.astore_n 3, 1) := by decide +kernel
theorem d_LW_law_20 : decode Y_LW_law.2.1 20 = .ok (.iconst (0), 1) := by decide +kernel
theorem d_LW_law_21 : decode Y_LW_law.2.1 21 = .ok (.istore 4, 2) := by decide +kernel
theorem d_LW_law_23 : decode Y_LW_law.2.1 23 = .ok (.iload 4, 2) := by decide +kernel
theorem d_LW_law_25 : decode Y_LW_law.2.1 25 = .ok (.aload_n 0, 1) := by decide +kernel
theorem d_LW_law_26 : decode Y_LW_law.2.1 26 = .ok (.arraylength, 1) := by decide +kernel
theorem d_LW_law_27 : decode Y_LW_law.2.1 27 = .ok (.bipush (6), 2) := by decide +kernel
theorem d_LW_law_29 : decode Y_LW_law.2.1 29 = .ok (.isub, 1) := by decide +kernel
theorem d_LW_law_30 : decode Y_LW_law.2.1 30 = .ok (.if_icmp .gt (1811), 3) := by decide +kernel
theorem d_LW_law_33 : decode Y_LW_law.2.1 33 = .ok (.aload_n 0, 1) := by decide +kernel
theorem d_LW_law_34 : decode Y_LW_law.2.1 34 = .ok (.iload 4, 2) := by decide +kernel
theorem d_LW_law_36 : decode Y_LW_law.2.1 36 = .ok (.iaload, 1) := by decide +kernel
theorem d_LW_law_37 : decode Y_LW_law.2.1 37 = .ok (.bipush (31), 2) := by decide +kernel
theorem d_LW_law_39 : decode Y_LW_law.2.1 39 = .ok (.iand, 1) := by decide +kernel
theorem d_LW_law_40 : decode Y_LW_law.2.1 40 = .ok (.tableswitch (1795) 0 25 #[(120), (176), (189), (202), (246), (302), (370), (438), (506), (574), (654), (758), (850), (934), (1018), (1098), (1154), (1222), (1266), (1346), (1414), (1427), (1483), (1583), (1683), (1739)], 120) := by decide +kernel
theorem d_LW_law_160 : decode Y_LW_law.2.1 160 = .ok (.aload_n 1, 1) := by decide +kernel
theorem d_LW_law_161 : decode Y_LW_law.2.1 161 = .ok (.aload_n 0, 1) := by decide +kernel
theorem d_LW_law_162 : decode Y_LW_law.2.1 162 = .ok (.iload 4, 2) := by decide +kernel
theorem d_LW_law_164 : decode Y_LW_law.2.1 164 = .ok (.iconst (1), 1) := by decide +kernel
theorem d_LW_law_165 : decode Y_LW_law.2.1 165 = .ok (.iadd, 1) := by decide +kernel
theorem d_LW_law_166 : decode Y_LW_law.2.1 166 = .ok (.iaload, 1) := by decide +kernel
theorem d_LW_law_167 : decode Y_LW_law.2.1 167 = .ok (.aload_n 3, 1) := by decide +kernel
theorem d_LW_law_168 : decode Y_LW_law.2.1 168 = .ok (.invokestatic 98, 3) := by decide +kernel
theorem d_LW_law_171 : decode Y_LW_law.2.1 171 = .ok (.istore 5, 2) := by decide +kernel
theorem d_LW_law_173 : decode Y_LW_law.2.1 173 = .ok (.aload_n 2, 1) := by decide +kernel
theorem d_LW_law_174 : decode Y_LW_law.2.1 174 = .ok (.aload_n 0, 1) := by decide +kernel
theorem d_LW_law_175 : decode Y_LW_law.2.1 175 = .ok (.iload 4, 2) := by decide +kernel
theorem d_LW_law_177 : decode Y_LW_law.2.1 177 = .ok (.iconst (1), 1) := by decide +kernel
theorem d_LW_law_178 : decode Y_LW_law.2.1 178 = .ok (.iadd, 1) := by decide +kernel
theorem d_LW_law_179 : decode Y_LW_law.2.1 179 = .ok (.iaload, 1) := by decide +kernel
theorem d_LW_law_180 : decode Y_LW_law.2.1 180 = .ok (.invokevirtual 103, 3) := by decide +kernel
theorem d_LW_law_183 : decode Y_LW_law.2.1 183 = .ok (.istore 6, 2) := by decide +kernel
theorem d_LW_law_185 : decode Y_LW_law.2.1 185 = .ok (.aload_n 2, 1) := by decide +kernel
theorem d_LW_law_186 : decode Y_LW_law.2.1 186 = .ok (.invokevirtual 104, 3) := by decide +kernel
theorem d_LW_law_189 : decode Y_LW_law.2.1 189 = .ok (.iload 5, 2) := by decide +kernel
theorem d_LW_law_191 : decode Y_LW_law.2.1 191 = .ok (.if_icmp .eq (5), 3) := by decide +kernel
theorem d_LW_law_194 : decode Y_LW_law.2.1 194 = .ok (.iconst (0), 1) := by decide +kernel
theorem d_LW_law_195 : decode Y_LW_law.2.1 195 = .ok (.ireturn, 1) := by decide +kernel
theorem d_LW_law_196 : decode Y_LW_law.2.1 196 = .ok (.iload 5, 2) := by decide +kernel
theorem d_LW_law_198 : decode Y_LW_law.2.1 198 = .ok (.ifCond .ne (15), 3) := by decide +kernel
theorem d_LW_law_201 : decode Y_LW_law.2.1 201 = .ok (.aload_n 3, 1) := by decide +kernel
theorem d_LW_law_202 : decode Y_LW_law.2.1 202 = .ok (.iconst (0), 1) := by decide +kernel
theorem d_LW_law_203 : decode Y_LW_law.2.1 203 = .ok (.laload, 1) := by decide +kernel
theorem d_LW_law_204 : decode Y_LW_law.2.1 204 = .ok (.iload 6, 2) := by decide +kernel
theorem d_LW_law_206 : decode Y_LW_law.2.1 206 = .ok (.i2l, 1) := by decide +kernel
theorem d_LW_law_207 : decode Y_LW_law.2.1 207 = .ok (.lcmp, 1) := by decide +kernel
theorem d_LW_law_208 : decode Y_LW_law.2.1 208 = .ok (.ifCond .eq (5), 3) := by decide +kernel
theorem d_LW_law_211 : decode Y_LW_law.2.1 211 = .ok (.iconst (0), 1) := by decide +kernel
theorem d_LW_law_212 : decode Y_LW_law.2.1 212 = .ok (.ireturn, 1) := by decide +kernel
theorem d_LW_law_213 : decode Y_LW_law.2.1 213 = .ok (.goto (1622), 3) := by decide +kernel
theorem d_LW_law_216 : decode Y_LW_law.2.1 216 = .ok (.aload_n 1, 1) := by decide +kernel
theorem d_LW_law_217 : decode Y_LW_law.2.1 217 = .ok (.invokevirtual 107, 3) := by decide +kernel
theorem d_LW_law_220 : decode Y_LW_law.2.1 220 = .ok (.aload_n 2, 1) := by decide +kernel
theorem d_LW_law_221 : decode Y_LW_law.2.1 221 = .ok (.invokevirtual 110, 3) := by decide +kernel
theorem d_LW_law_224 : decode Y_LW_law.2.1 224 = .ok (.if_icmp .eq (1611), 3) := by decide +kernel
theorem d_LW_law_227 : decode Y_LW_law.2.1 227 = .ok (.iconst (0), 1) := by decide +kernel
theorem d_LW_law_228 : decode Y_LW_law.2.1 228 = .ok (.ireturn, 1) := by decide +kernel
theorem d_LW_law_229 : decode Y_LW_law.2.1 229 = .ok (.aload_n 1, 1) := by decide +kernel
theorem d_LW_law_230 : decode Y_LW_law.2.1 230 = .ok (.invokevirtual 111, 3) := by decide +kernel
theorem d_LW_law_233 : decode Y_LW_law.2.1 233 = .ok (.aload_n 2, 1) := by decide +kernel
theorem d_LW_law_234 : decode Y_LW_law.2.1 234 = .ok (.invokevirtual 114, 3) := by decide +kernel
theorem d_LW_law_237 : decode Y_LW_law.2.1 237 = .ok (.if_icmp .eq (1598), 3) := by decide +kernel
theorem d_LW_law_240 : decode Y_LW_law.2.1 240 = .ok (.iconst (0), 1) := by decide +kernel
theorem d_LW_law_241 : decode Y_LW_law.2.1 241 = .ok (.ireturn, 1) := by decide +kernel
theorem d_LW_law_242 : decode Y_LW_law.2.1 242 = .ok (.aload_n 1, 1) := by decide +kernel
theorem d_LW_law_243 : decode Y_LW_law.2.1 243 = .ok (.aload_n 3, 1) := by decide +kernel
theorem d_LW_law_244 : decode Y_LW_law.2.1 244 = .ok (.invokestatic 115, 3) := by decide +kernel
theorem d_LW_law_247 : decode Y_LW_law.2.1 247 = .ok (.istore 5, 2) := by decide +kernel
theorem d_LW_law_249 : decode Y_LW_law.2.1 249 = .ok (.aload_n 2, 1) := by decide +kernel
theorem d_LW_law_250 : decode Y_LW_law.2.1 250 = .ok (.invokevirtual 118, 3) := by decide +kernel
theorem d_LW_law_253 : decode Y_LW_law.2.1 253 = .ok (.istore 6, 2) := by decide +kernel
theorem d_LW_law_255 : decode Y_LW_law.2.1 255 = .ok (.aload_n 2, 1) := by decide +kernel
theorem d_LW_law_256 : decode Y_LW_law.2.1 256 = .ok (.invokevirtual 104, 3) := by decide +kernel
theorem d_LW_law_259 : decode Y_LW_law.2.1 259 = .ok (.iload 5, 2) := by decide +kernel
theorem d_LW_law_261 : decode Y_LW_law.2.1 261 = .ok (.if_icmp .eq (5), 3) := by decide +kernel
theorem d_LW_law_264 : decode Y_LW_law.2.1 264 = .ok (.iconst (0), 1) := by decide +kernel
theorem d_LW_law_265 : decode Y_LW_law.2.1 265 = .ok (.ireturn, 1) := by decide +kernel
theorem d_LW_law_266 : decode Y_LW_law.2.1 266 = .ok (.iload 5, 2) := by decide +kernel
theorem d_LW_law_268 : decode Y_LW_law.2.1 268 = .ok (.ifCond .ne (15), 3) := by decide +kernel
theorem d_LW_law_271 : decode Y_LW_law.2.1 271 = .ok (.aload_n 3, 1) := by decide +kernel
theorem d_LW_law_272 : decode Y_LW_law.2.1 272 = .ok (.iconst (0), 1) := by decide +kernel
theorem d_LW_law_273 : decode Y_LW_law.2.1 273 = .ok (.laload, 1) := by decide +kernel
theorem d_LW_law_274 : decode Y_LW_law.2.1 274 = .ok (.iload 6, 2) := by decide +kernel
theorem d_LW_law_276 : decode Y_LW_law.2.1 276 = .ok (.i2l, 1) := by decide +kernel
theorem d_LW_law_277 : decode Y_LW_law.2.1 277 = .ok (.lcmp, 1) := by decide +kernel
theorem d_LW_law_278 : decode Y_LW_law.2.1 278 = .ok (.ifCond .eq (5), 3) := by decide +kernel
theorem d_LW_law_281 : decode Y_LW_law.2.1 281 = .ok (.iconst (0), 1) := by decide +kernel
theorem d_LW_law_282 : decode Y_LW_law.2.1 282 = .ok (.ireturn, 1) := by decide +kernel
theorem d_LW_law_283 : decode Y_LW_law.2.1 283 = .ok (.goto (1552), 3) := by decide +kernel
theorem d_LW_law_286 : decode Y_LW_law.2.1 286 = .ok (.aload_n 1, 1) := by decide +kernel
theorem d_LW_law_287 : decode Y_LW_law.2.1 287 = .ok (.aload_n 0, 1) := by decide +kernel
theorem d_LW_law_288 : decode Y_LW_law.2.1 288 = .ok (.iload 4, 2) := by decide +kernel
theorem d_LW_law_290 : decode Y_LW_law.2.1 290 = .ok (.iconst (1), 1) := by decide +kernel
theorem d_LW_law_291 : decode Y_LW_law.2.1 291 = .ok (.iadd, 1) := by decide +kernel
theorem d_LW_law_292 : decode Y_LW_law.2.1 292 = .ok (.iaload, 1) := by decide +kernel
theorem d_LW_law_293 : decode Y_LW_law.2.1 293 = .ok (.aload_n 3, 1) := by decide +kernel
theorem d_LW_law_294 : decode Y_LW_law.2.1 294 = .ok (.invokestatic 119, 3) := by decide +kernel
theorem d_LW_law_297 : decode Y_LW_law.2.1 297 = .ok (.istore 5, 2) := by decide +kernel
theorem d_LW_law_299 : decode Y_LW_law.2.1 299 = .ok (.aload_n 2, 1) := by decide +kernel
theorem d_LW_law_300 : decode Y_LW_law.2.1 300 = .ok (.aload_n 0, 1) := by decide +kernel
theorem d_LW_law_301 : decode Y_LW_law.2.1 301 = .ok (.iload 4, 2) := by decide +kernel
theorem d_LW_law_303 : decode Y_LW_law.2.1 303 = .ok (.iconst (1), 1) := by decide +kernel
theorem d_LW_law_304 : decode Y_LW_law.2.1 304 = .ok (.iadd, 1) := by decide +kernel
theorem d_LW_law_305 : decode Y_LW_law.2.1 305 = .ok (.iaload, 1) := by decide +kernel
theorem d_LW_law_306 : decode Y_LW_law.2.1 306 = .ok (.invokevirtual 121, 3) := by decide +kernel
theorem d_LW_law_309 : decode Y_LW_law.2.1 309 = .ok (.istore 6, 2) := by decide +kernel
theorem d_LW_law_311 : decode Y_LW_law.2.1 311 = .ok (.aload_n 2, 1) := by decide +kernel
theorem d_LW_law_312 : decode Y_LW_law.2.1 312 = .ok (.invokevirtual 104, 3) := by decide +kernel
theorem d_LW_law_315 : decode Y_LW_law.2.1 315 = .ok (.iload 5, 2) := by decide +kernel
theorem d_LW_law_317 : decode Y_LW_law.2.1 317 = .ok (.if_icmp .eq (5), 3) := by decide +kernel
theorem d_LW_law_320 : decode Y_LW_law.2.1 320 = .ok (.iconst (0), 1) := by decide +kernel
theorem d_LW_law_321 : decode Y_LW_law.2.1 321 = .ok (.ireturn, 1) := by decide +kernel
theorem d_LW_law_322 : decode Y_LW_law.2.1 322 = .ok (.iload 5, 2) := by decide +kernel
theorem d_LW_law_324 : decode Y_LW_law.2.1 324 = .ok (.ifCond .ne (15), 3) := by decide +kernel
theorem d_LW_law_327 : decode Y_LW_law.2.1 327 = .ok (.aload_n 3, 1) := by decide +kernel
theorem d_LW_law_328 : decode Y_LW_law.2.1 328 = .ok (.iconst (0), 1) := by decide +kernel
theorem d_LW_law_329 : decode Y_LW_law.2.1 329 = .ok (.laload, 1) := by decide +kernel
theorem d_LW_law_330 : decode Y_LW_law.2.1 330 = .ok (.iload 6, 2) := by decide +kernel
theorem d_LW_law_332 : decode Y_LW_law.2.1 332 = .ok (.i2l, 1) := by decide +kernel
theorem d_LW_law_333 : decode Y_LW_law.2.1 333 = .ok (.lcmp, 1) := by decide +kernel
theorem d_LW_law_334 : decode Y_LW_law.2.1 334 = .ok (.ifCond .eq (5), 3) := by decide +kernel
theorem d_LW_law_337 : decode Y_LW_law.2.1 337 = .ok (.iconst (0), 1) := by decide +kernel
theorem d_LW_law_338 : decode Y_LW_law.2.1 338 = .ok (.ireturn, 1) := by decide +kernel
theorem d_LW_law_339 : decode Y_LW_law.2.1 339 = .ok (.goto (1496), 3) := by decide +kernel
theorem d_LW_law_342 : decode Y_LW_law.2.1 342 = .ok (.aload_n 1, 1) := by decide +kernel
theorem d_LW_law_343 : decode Y_LW_law.2.1 343 = .ok (.aload_n 0, 1) := by decide +kernel
theorem d_LW_law_344 : decode Y_LW_law.2.1 344 = .ok (.iload 4, 2) := by decide +kernel
theorem d_LW_law_346 : decode Y_LW_law.2.1 346 = .ok (.iconst (1), 1) := by decide +kernel
theorem d_LW_law_347 : decode Y_LW_law.2.1 347 = .ok (.iadd, 1) := by decide +kernel
theorem d_LW_law_348 : decode Y_LW_law.2.1 348 = .ok (.iaload, 1) := by decide +kernel
theorem d_LW_law_349 : decode Y_LW_law.2.1 349 = .ok (.aload_n 0, 1) := by decide +kernel
theorem d_LW_law_350 : decode Y_LW_law.2.1 350 = .ok (.iload 4, 2) := by decide +kernel
theorem d_LW_law_352 : decode Y_LW_law.2.1 352 = .ok (.iconst (2), 1) := by decide +kernel
theorem d_LW_law_353 : decode Y_LW_law.2.1 353 = .ok (.iadd, 1) := by decide +kernel
theorem d_LW_law_354 : decode Y_LW_law.2.1 354 = .ok (.iaload, 1) := by decide +kernel
theorem d_LW_law_355 : decode Y_LW_law.2.1 355 = .ok (.aload_n 3, 1) := by decide +kernel
theorem d_LW_law_356 : decode Y_LW_law.2.1 356 = .ok (.invokestatic 122, 3) := by decide +kernel
theorem d_LW_law_359 : decode Y_LW_law.2.1 359 = .ok (.istore 5, 2) := by decide +kernel
theorem d_LW_law_361 : decode Y_LW_law.2.1 361 = .ok (.aload_n 2, 1) := by decide +kernel
theorem d_LW_law_362 : decode Y_LW_law.2.1 362 = .ok (.aload_n 0, 1) := by decide +kernel
theorem d_LW_law_363 : decode Y_LW_law.2.1 363 = .ok (.iload 4, 2) := by decide +kernel
theorem d_LW_law_365 : decode Y_LW_law.2.1 365 = .ok (.iconst (1), 1) := by decide +kernel
theorem d_LW_law_366 : decode Y_LW_law.2.1 366 = .ok (.iadd, 1) := by decide +kernel
theorem d_LW_law_367 : decode Y_LW_law.2.1 367 = .ok (.iaload, 1) := by decide +kernel
theorem d_LW_law_368 : decode Y_LW_law.2.1 368 = .ok (.aload_n 0, 1) := by decide +kernel
theorem d_LW_law_369 : decode Y_LW_law.2.1 369 = .ok (.iload 4, 2) := by decide +kernel
theorem d_LW_law_371 : decode Y_LW_law.2.1 371 = .ok (.iconst (2), 1) := by decide +kernel
theorem d_LW_law_372 : decode Y_LW_law.2.1 372 = .ok (.iadd, 1) := by decide +kernel
theorem d_LW_law_373 : decode Y_LW_law.2.1 373 = .ok (.iaload, 1) := by decide +kernel
theorem d_LW_law_374 : decode Y_LW_law.2.1 374 = .ok (.invokevirtual 125, 3) := by decide +kernel
theorem d_LW_law_377 : decode Y_LW_law.2.1 377 = .ok (.istore 6, 2) := by decide +kernel
theorem d_LW_law_379 : decode Y_LW_law.2.1 379 = .ok (.aload_n 2, 1) := by decide +kernel
theorem d_LW_law_380 : decode Y_LW_law.2.1 380 = .ok (.invokevirtual 104, 3) := by decide +kernel
theorem d_LW_law_383 : decode Y_LW_law.2.1 383 = .ok (.iload 5, 2) := by decide +kernel
theorem d_LW_law_385 : decode Y_LW_law.2.1 385 = .ok (.if_icmp .eq (5), 3) := by decide +kernel
theorem d_LW_law_388 : decode Y_LW_law.2.1 388 = .ok (.iconst (0), 1) := by decide +kernel
theorem d_LW_law_389 : decode Y_LW_law.2.1 389 = .ok (.ireturn, 1) := by decide +kernel
theorem d_LW_law_390 : decode Y_LW_law.2.1 390 = .ok (.iload 5, 2) := by decide +kernel
theorem d_LW_law_392 : decode Y_LW_law.2.1 392 = .ok (.ifCond .ne (15), 3) := by decide +kernel
theorem d_LW_law_395 : decode Y_LW_law.2.1 395 = .ok (.aload_n 3, 1) := by decide +kernel
theorem d_LW_law_396 : decode Y_LW_law.2.1 396 = .ok (.iconst (0), 1) := by decide +kernel
theorem d_LW_law_397 : decode Y_LW_law.2.1 397 = .ok (.laload, 1) := by decide +kernel
theorem d_LW_law_398 : decode Y_LW_law.2.1 398 = .ok (.iload 6, 2) := by decide +kernel
theorem d_LW_law_400 : decode Y_LW_law.2.1 400 = .ok (.i2l, 1) := by decide +kernel
theorem d_LW_law_401 : decode Y_LW_law.2.1 401 = .ok (.lcmp, 1) := by decide +kernel
theorem d_LW_law_402 : decode Y_LW_law.2.1 402 = .ok (.ifCond .eq (5), 3) := by decide +kernel
theorem d_LW_law_405 : decode Y_LW_law.2.1 405 = .ok (.iconst (0), 1) := by decide +kernel
theorem d_LW_law_406 : decode Y_LW_law.2.1 406 = .ok (.ireturn, 1) := by decide +kernel
theorem d_LW_law_407 : decode Y_LW_law.2.1 407 = .ok (.goto (1428), 3) := by decide +kernel
theorem d_LW_law_410 : decode Y_LW_law.2.1 410 = .ok (.aload_n 1, 1) := by decide +kernel
theorem d_LW_law_411 : decode Y_LW_law.2.1 411 = .ok (.aload_n 0, 1) := by decide +kernel
theorem d_LW_law_412 : decode Y_LW_law.2.1 412 = .ok (.iload 4, 2) := by decide +kernel
theorem d_LW_law_414 : decode Y_LW_law.2.1 414 = .ok (.iconst (1), 1) := by decide +kernel
theorem d_LW_law_415 : decode Y_LW_law.2.1 415 = .ok (.iadd, 1) := by decide +kernel
theorem d_LW_law_416 : decode Y_LW_law.2.1 416 = .ok (.iaload, 1) := by decide +kernel
theorem d_LW_law_417 : decode Y_LW_law.2.1 417 = .ok (.aload_n 0, 1) := by decide +kernel
theorem d_LW_law_418 : decode Y_LW_law.2.1 418 = .ok (.iload 4, 2) := by decide +kernel
theorem d_LW_law_420 : decode Y_LW_law.2.1 420 = .ok (.iconst (2), 1) := by decide +kernel
theorem d_LW_law_421 : decode Y_LW_law.2.1 421 = .ok (.iadd, 1) := by decide +kernel
theorem d_LW_law_422 : decode Y_LW_law.2.1 422 = .ok (.iaload, 1) := by decide +kernel
theorem d_LW_law_423 : decode Y_LW_law.2.1 423 = .ok (.aload_n 3, 1) := by decide +kernel
theorem d_LW_law_424 : decode Y_LW_law.2.1 424 = .ok (.invokestatic 126, 3) := by decide +kernel
theorem d_LW_law_427 : decode Y_LW_law.2.1 427 = .ok (.istore 5, 2) := by decide +kernel
theorem d_LW_law_429 : decode Y_LW_law.2.1 429 = .ok (.aload_n 2, 1) := by decide +kernel
theorem d_LW_law_430 : decode Y_LW_law.2.1 430 = .ok (.aload_n 0, 1) := by decide +kernel
theorem d_LW_law_431 : decode Y_LW_law.2.1 431 = .ok (.iload 4, 2) := by decide +kernel
theorem d_LW_law_433 : decode Y_LW_law.2.1 433 = .ok (.iconst (1), 1) := by decide +kernel
theorem d_LW_law_434 : decode Y_LW_law.2.1 434 = .ok (.iadd, 1) := by decide +kernel
theorem d_LW_law_435 : decode Y_LW_law.2.1 435 = .ok (.iaload, 1) := by decide +kernel
theorem d_LW_law_436 : decode Y_LW_law.2.1 436 = .ok (.aload_n 0, 1) := by decide +kernel
theorem d_LW_law_437 : decode Y_LW_law.2.1 437 = .ok (.iload 4, 2) := by decide +kernel
theorem d_LW_law_439 : decode Y_LW_law.2.1 439 = .ok (.iconst (2), 1) := by decide +kernel
theorem d_LW_law_440 : decode Y_LW_law.2.1 440 = .ok (.iadd, 1) := by decide +kernel
theorem d_LW_law_441 : decode Y_LW_law.2.1 441 = .ok (.iaload, 1) := by decide +kernel
theorem d_LW_law_442 : decode Y_LW_law.2.1 442 = .ok (.invokevirtual 128, 3) := by decide +kernel
theorem d_LW_law_445 : decode Y_LW_law.2.1 445 = .ok (.istore 6, 2) := by decide +kernel
theorem d_LW_law_447 : decode Y_LW_law.2.1 447 = .ok (.aload_n 2, 1) := by decide +kernel
theorem d_LW_law_448 : decode Y_LW_law.2.1 448 = .ok (.invokevirtual 104, 3) := by decide +kernel
theorem d_LW_law_451 : decode Y_LW_law.2.1 451 = .ok (.iload 5, 2) := by decide +kernel
theorem d_LW_law_453 : decode Y_LW_law.2.1 453 = .ok (.if_icmp .eq (5), 3) := by decide +kernel
theorem d_LW_law_456 : decode Y_LW_law.2.1 456 = .ok (.iconst (0), 1) := by decide +kernel
theorem d_LW_law_457 : decode Y_LW_law.2.1 457 = .ok (.ireturn, 1) := by decide +kernel
theorem d_LW_law_458 : decode Y_LW_law.2.1 458 = .ok (.iload 5, 2) := by decide +kernel
theorem d_LW_law_460 : decode Y_LW_law.2.1 460 = .ok (.ifCond .ne (15), 3) := by decide +kernel
theorem d_LW_law_463 : decode Y_LW_law.2.1 463 = .ok (.aload_n 3, 1) := by decide +kernel
theorem d_LW_law_464 : decode Y_LW_law.2.1 464 = .ok (.iconst (0), 1) := by decide +kernel
theorem d_LW_law_465 : decode Y_LW_law.2.1 465 = .ok (.laload, 1) := by decide +kernel
theorem d_LW_law_466 : decode Y_LW_law.2.1 466 = .ok (.iload 6, 2) := by decide +kernel
theorem d_LW_law_468 : decode Y_LW_law.2.1 468 = .ok (.i2l, 1) := by decide +kernel
theorem d_LW_law_469 : decode Y_LW_law.2.1 469 = .ok (.lcmp, 1) := by decide +kernel
theorem d_LW_law_470 : decode Y_LW_law.2.1 470 = .ok (.ifCond .eq (5), 3) := by decide +kernel
theorem d_LW_law_473 : decode Y_LW_law.2.1 473 = .ok (.iconst (0), 1) := by decide +kernel
theorem d_LW_law_474 : decode Y_LW_law.2.1 474 = .ok (.ireturn, 1) := by decide +kernel
theorem d_LW_law_475 : decode Y_LW_law.2.1 475 = .ok (.goto (1360), 3) := by decide +kernel
theorem d_LW_law_478 : decode Y_LW_law.2.1 478 = .ok (.aload_n 1, 1) := by decide +kernel
theorem d_LW_law_479 : decode Y_LW_law.2.1 479 = .ok (.aload_n 0, 1) := by decide +kernel
theorem d_LW_law_480 : decode Y_LW_law.2.1 480 = .ok (.iload 4, 2) := by decide +kernel
theorem d_LW_law_482 : decode Y_LW_law.2.1 482 = .ok (.iconst (1), 1) := by decide +kernel
theorem d_LW_law_483 : decode Y_LW_law.2.1 483 = .ok (.iadd, 1) := by decide +kernel
theorem d_LW_law_484 : decode Y_LW_law.2.1 484 = .ok (.iaload, 1) := by decide +kernel
theorem d_LW_law_485 : decode Y_LW_law.2.1 485 = .ok (.aload_n 0, 1) := by decide +kernel
theorem d_LW_law_486 : decode Y_LW_law.2.1 486 = .ok (.iload 4, 2) := by decide +kernel
theorem d_LW_law_488 : decode Y_LW_law.2.1 488 = .ok (.iconst (2), 1) := by decide +kernel
theorem d_LW_law_489 : decode Y_LW_law.2.1 489 = .ok (.iadd, 1) := by decide +kernel
theorem d_LW_law_490 : decode Y_LW_law.2.1 490 = .ok (.iaload, 1) := by decide +kernel
theorem d_LW_law_491 : decode Y_LW_law.2.1 491 = .ok (.aload_n 3, 1) := by decide +kernel
theorem d_LW_law_492 : decode Y_LW_law.2.1 492 = .ok (.invokestatic 129, 3) := by decide +kernel
theorem d_LW_law_495 : decode Y_LW_law.2.1 495 = .ok (.istore 5, 2) := by decide +kernel
theorem d_LW_law_497 : decode Y_LW_law.2.1 497 = .ok (.aload_n 2, 1) := by decide +kernel
theorem d_LW_law_498 : decode Y_LW_law.2.1 498 = .ok (.aload_n 0, 1) := by decide +kernel
theorem d_LW_law_499 : decode Y_LW_law.2.1 499 = .ok (.iload 4, 2) := by decide +kernel
theorem d_LW_law_501 : decode Y_LW_law.2.1 501 = .ok (.iconst (1), 1) := by decide +kernel
theorem d_LW_law_502 : decode Y_LW_law.2.1 502 = .ok (.iadd, 1) := by decide +kernel
theorem d_LW_law_503 : decode Y_LW_law.2.1 503 = .ok (.iaload, 1) := by decide +kernel
theorem d_LW_law_504 : decode Y_LW_law.2.1 504 = .ok (.aload_n 0, 1) := by decide +kernel
theorem d_LW_law_505 : decode Y_LW_law.2.1 505 = .ok (.iload 4, 2) := by decide +kernel
theorem d_LW_law_507 : decode Y_LW_law.2.1 507 = .ok (.iconst (2), 1) := by decide +kernel
theorem d_LW_law_508 : decode Y_LW_law.2.1 508 = .ok (.iadd, 1) := by decide +kernel
theorem d_LW_law_509 : decode Y_LW_law.2.1 509 = .ok (.iaload, 1) := by decide +kernel
theorem d_LW_law_510 : decode Y_LW_law.2.1 510 = .ok (.invokevirtual 131, 3) := by decide +kernel
theorem d_LW_law_513 : decode Y_LW_law.2.1 513 = .ok (.istore 6, 2) := by decide +kernel
theorem d_LW_law_515 : decode Y_LW_law.2.1 515 = .ok (.aload_n 2, 1) := by decide +kernel
theorem d_LW_law_516 : decode Y_LW_law.2.1 516 = .ok (.invokevirtual 104, 3) := by decide +kernel
theorem d_LW_law_519 : decode Y_LW_law.2.1 519 = .ok (.iload 5, 2) := by decide +kernel
theorem d_LW_law_521 : decode Y_LW_law.2.1 521 = .ok (.if_icmp .eq (5), 3) := by decide +kernel
theorem d_LW_law_524 : decode Y_LW_law.2.1 524 = .ok (.iconst (0), 1) := by decide +kernel
theorem d_LW_law_525 : decode Y_LW_law.2.1 525 = .ok (.ireturn, 1) := by decide +kernel
theorem d_LW_law_526 : decode Y_LW_law.2.1 526 = .ok (.iload 5, 2) := by decide +kernel
theorem d_LW_law_528 : decode Y_LW_law.2.1 528 = .ok (.ifCond .ne (15), 3) := by decide +kernel
theorem d_LW_law_531 : decode Y_LW_law.2.1 531 = .ok (.aload_n 3, 1) := by decide +kernel
theorem d_LW_law_532 : decode Y_LW_law.2.1 532 = .ok (.iconst (0), 1) := by decide +kernel
theorem d_LW_law_533 : decode Y_LW_law.2.1 533 = .ok (.laload, 1) := by decide +kernel
theorem d_LW_law_534 : decode Y_LW_law.2.1 534 = .ok (.iload 6, 2) := by decide +kernel
theorem d_LW_law_536 : decode Y_LW_law.2.1 536 = .ok (.i2l, 1) := by decide +kernel
theorem d_LW_law_537 : decode Y_LW_law.2.1 537 = .ok (.lcmp, 1) := by decide +kernel
theorem d_LW_law_538 : decode Y_LW_law.2.1 538 = .ok (.ifCond .eq (5), 3) := by decide +kernel
theorem d_LW_law_541 : decode Y_LW_law.2.1 541 = .ok (.iconst (0), 1) := by decide +kernel
theorem d_LW_law_542 : decode Y_LW_law.2.1 542 = .ok (.ireturn, 1) := by decide +kernel
theorem d_LW_law_543 : decode Y_LW_law.2.1 543 = .ok (.goto (1292), 3) := by decide +kernel
theorem d_LW_law_546 : decode Y_LW_law.2.1 546 = .ok (.aload_n 1, 1) := by decide +kernel
theorem d_LW_law_547 : decode Y_LW_law.2.1 547 = .ok (.aload_n 0, 1) := by decide +kernel
theorem d_LW_law_548 : decode Y_LW_law.2.1 548 = .ok (.iload 4, 2) := by decide +kernel
theorem d_LW_law_550 : decode Y_LW_law.2.1 550 = .ok (.iconst (1), 1) := by decide +kernel
theorem d_LW_law_551 : decode Y_LW_law.2.1 551 = .ok (.iadd, 1) := by decide +kernel
theorem d_LW_law_552 : decode Y_LW_law.2.1 552 = .ok (.iaload, 1) := by decide +kernel
theorem d_LW_law_553 : decode Y_LW_law.2.1 553 = .ok (.aload_n 0, 1) := by decide +kernel
theorem d_LW_law_554 : decode Y_LW_law.2.1 554 = .ok (.iload 4, 2) := by decide +kernel
theorem d_LW_law_556 : decode Y_LW_law.2.1 556 = .ok (.iconst (2), 1) := by decide +kernel
theorem d_LW_law_557 : decode Y_LW_law.2.1 557 = .ok (.iadd, 1) := by decide +kernel
theorem d_LW_law_558 : decode Y_LW_law.2.1 558 = .ok (.iaload, 1) := by decide +kernel
theorem d_LW_law_559 : decode Y_LW_law.2.1 559 = .ok (.aload_n 3, 1) := by decide +kernel
theorem d_LW_law_560 : decode Y_LW_law.2.1 560 = .ok (.invokestatic 132, 3) := by decide +kernel
theorem d_LW_law_563 : decode Y_LW_law.2.1 563 = .ok (.istore 5, 2) := by decide +kernel
theorem d_LW_law_565 : decode Y_LW_law.2.1 565 = .ok (.aload_n 2, 1) := by decide +kernel
theorem d_LW_law_566 : decode Y_LW_law.2.1 566 = .ok (.aload_n 0, 1) := by decide +kernel
theorem d_LW_law_567 : decode Y_LW_law.2.1 567 = .ok (.iload 4, 2) := by decide +kernel
theorem d_LW_law_569 : decode Y_LW_law.2.1 569 = .ok (.iconst (1), 1) := by decide +kernel
theorem d_LW_law_570 : decode Y_LW_law.2.1 570 = .ok (.iadd, 1) := by decide +kernel
theorem d_LW_law_571 : decode Y_LW_law.2.1 571 = .ok (.iaload, 1) := by decide +kernel
theorem d_LW_law_572 : decode Y_LW_law.2.1 572 = .ok (.aload_n 0, 1) := by decide +kernel
theorem d_LW_law_573 : decode Y_LW_law.2.1 573 = .ok (.iload 4, 2) := by decide +kernel
theorem d_LW_law_575 : decode Y_LW_law.2.1 575 = .ok (.iconst (2), 1) := by decide +kernel
theorem d_LW_law_576 : decode Y_LW_law.2.1 576 = .ok (.iadd, 1) := by decide +kernel
theorem d_LW_law_577 : decode Y_LW_law.2.1 577 = .ok (.iaload, 1) := by decide +kernel
theorem d_LW_law_578 : decode Y_LW_law.2.1 578 = .ok (.invokevirtual 134, 3) := by decide +kernel
theorem d_LW_law_581 : decode Y_LW_law.2.1 581 = .ok (.istore 6, 2) := by decide +kernel
theorem d_LW_law_583 : decode Y_LW_law.2.1 583 = .ok (.aload_n 2, 1) := by decide +kernel
theorem d_LW_law_584 : decode Y_LW_law.2.1 584 = .ok (.invokevirtual 104, 3) := by decide +kernel
theorem d_LW_law_587 : decode Y_LW_law.2.1 587 = .ok (.iload 5, 2) := by decide +kernel
theorem d_LW_law_589 : decode Y_LW_law.2.1 589 = .ok (.if_icmp .eq (5), 3) := by decide +kernel
theorem d_LW_law_592 : decode Y_LW_law.2.1 592 = .ok (.iconst (0), 1) := by decide +kernel
theorem d_LW_law_593 : decode Y_LW_law.2.1 593 = .ok (.ireturn, 1) := by decide +kernel
theorem d_LW_law_594 : decode Y_LW_law.2.1 594 = .ok (.iload 5, 2) := by decide +kernel
theorem d_LW_law_596 : decode Y_LW_law.2.1 596 = .ok (.ifCond .ne (15), 3) := by decide +kernel
theorem d_LW_law_599 : decode Y_LW_law.2.1 599 = .ok (.aload_n 3, 1) := by decide +kernel
theorem d_LW_law_600 : decode Y_LW_law.2.1 600 = .ok (.iconst (0), 1) := by decide +kernel
theorem d_LW_law_601 : decode Y_LW_law.2.1 601 = .ok (.laload, 1) := by decide +kernel
theorem d_LW_law_602 : decode Y_LW_law.2.1 602 = .ok (.iload 6, 2) := by decide +kernel
theorem d_LW_law_604 : decode Y_LW_law.2.1 604 = .ok (.i2l, 1) := by decide +kernel
theorem d_LW_law_605 : decode Y_LW_law.2.1 605 = .ok (.lcmp, 1) := by decide +kernel
theorem d_LW_law_606 : decode Y_LW_law.2.1 606 = .ok (.ifCond .eq (5), 3) := by decide +kernel
theorem d_LW_law_609 : decode Y_LW_law.2.1 609 = .ok (.iconst (0), 1) := by decide +kernel
theorem d_LW_law_610 : decode Y_LW_law.2.1 610 = .ok (.ireturn, 1) := by decide +kernel
theorem d_LW_law_611 : decode Y_LW_law.2.1 611 = .ok (.goto (1224), 3) := by decide +kernel
theorem d_LW_law_614 : decode Y_LW_law.2.1 614 = .ok (.aload_n 1, 1) := by decide +kernel
theorem d_LW_law_615 : decode Y_LW_law.2.1 615 = .ok (.aload_n 0, 1) := by decide +kernel
theorem d_LW_law_616 : decode Y_LW_law.2.1 616 = .ok (.iload 4, 2) := by decide +kernel
theorem d_LW_law_618 : decode Y_LW_law.2.1 618 = .ok (.iconst (1), 1) := by decide +kernel
theorem d_LW_law_619 : decode Y_LW_law.2.1 619 = .ok (.iadd, 1) := by decide +kernel
theorem d_LW_law_620 : decode Y_LW_law.2.1 620 = .ok (.iaload, 1) := by decide +kernel
theorem d_LW_law_621 : decode Y_LW_law.2.1 621 = .ok (.aload_n 0, 1) := by decide +kernel
theorem d_LW_law_622 : decode Y_LW_law.2.1 622 = .ok (.iload 4, 2) := by decide +kernel
theorem d_LW_law_624 : decode Y_LW_law.2.1 624 = .ok (.iconst (2), 1) := by decide +kernel
theorem d_LW_law_625 : decode Y_LW_law.2.1 625 = .ok (.iadd, 1) := by decide +kernel
theorem d_LW_law_626 : decode Y_LW_law.2.1 626 = .ok (.iaload, 1) := by decide +kernel
theorem d_LW_law_627 : decode Y_LW_law.2.1 627 = .ok (.aload_n 0, 1) := by decide +kernel
theorem d_LW_law_628 : decode Y_LW_law.2.1 628 = .ok (.iload 4, 2) := by decide +kernel
theorem d_LW_law_630 : decode Y_LW_law.2.1 630 = .ok (.iconst (3), 1) := by decide +kernel
theorem d_LW_law_631 : decode Y_LW_law.2.1 631 = .ok (.iadd, 1) := by decide +kernel
theorem d_LW_law_632 : decode Y_LW_law.2.1 632 = .ok (.iaload, 1) := by decide +kernel
theorem d_LW_law_633 : decode Y_LW_law.2.1 633 = .ok (.aload_n 3, 1) := by decide +kernel
theorem d_LW_law_634 : decode Y_LW_law.2.1 634 = .ok (.invokestatic 135, 3) := by decide +kernel
theorem d_LW_law_637 : decode Y_LW_law.2.1 637 = .ok (.istore 5, 2) := by decide +kernel
theorem d_LW_law_639 : decode Y_LW_law.2.1 639 = .ok (.aload_n 2, 1) := by decide +kernel
theorem d_LW_law_640 : decode Y_LW_law.2.1 640 = .ok (.aload_n 0, 1) := by decide +kernel
theorem d_LW_law_641 : decode Y_LW_law.2.1 641 = .ok (.iload 4, 2) := by decide +kernel
theorem d_LW_law_643 : decode Y_LW_law.2.1 643 = .ok (.iconst (1), 1) := by decide +kernel
theorem d_LW_law_644 : decode Y_LW_law.2.1 644 = .ok (.iadd, 1) := by decide +kernel
theorem d_LW_law_645 : decode Y_LW_law.2.1 645 = .ok (.iaload, 1) := by decide +kernel
theorem d_LW_law_646 : decode Y_LW_law.2.1 646 = .ok (.aload_n 0, 1) := by decide +kernel
theorem d_LW_law_647 : decode Y_LW_law.2.1 647 = .ok (.iload 4, 2) := by decide +kernel
theorem d_LW_law_649 : decode Y_LW_law.2.1 649 = .ok (.iconst (2), 1) := by decide +kernel
theorem d_LW_law_650 : decode Y_LW_law.2.1 650 = .ok (.iadd, 1) := by decide +kernel
theorem d_LW_law_651 : decode Y_LW_law.2.1 651 = .ok (.iaload, 1) := by decide +kernel
theorem d_LW_law_652 : decode Y_LW_law.2.1 652 = .ok (.aload_n 0, 1) := by decide +kernel
theorem d_LW_law_653 : decode Y_LW_law.2.1 653 = .ok (.iload 4, 2) := by decide +kernel
theorem d_LW_law_655 : decode Y_LW_law.2.1 655 = .ok (.iconst (3), 1) := by decide +kernel
theorem d_LW_law_656 : decode Y_LW_law.2.1 656 = .ok (.iadd, 1) := by decide +kernel
theorem d_LW_law_657 : decode Y_LW_law.2.1 657 = .ok (.iaload, 1) := by decide +kernel
theorem d_LW_law_658 : decode Y_LW_law.2.1 658 = .ok (.invokevirtual 138, 3) := by decide +kernel
theorem d_LW_law_661 : decode Y_LW_law.2.1 661 = .ok (.istore 6, 2) := by decide +kernel
theorem d_LW_law_663 : decode Y_LW_law.2.1 663 = .ok (.aload_n 2, 1) := by decide +kernel
theorem d_LW_law_664 : decode Y_LW_law.2.1 664 = .ok (.invokevirtual 104, 3) := by decide +kernel
theorem d_LW_law_667 : decode Y_LW_law.2.1 667 = .ok (.iload 5, 2) := by decide +kernel
theorem d_LW_law_669 : decode Y_LW_law.2.1 669 = .ok (.if_icmp .eq (5), 3) := by decide +kernel
theorem d_LW_law_672 : decode Y_LW_law.2.1 672 = .ok (.iconst (0), 1) := by decide +kernel
theorem d_LW_law_673 : decode Y_LW_law.2.1 673 = .ok (.ireturn, 1) := by decide +kernel
theorem d_LW_law_674 : decode Y_LW_law.2.1 674 = .ok (.iload 5, 2) := by decide +kernel
theorem d_LW_law_676 : decode Y_LW_law.2.1 676 = .ok (.ifCond .ne (15), 3) := by decide +kernel
theorem d_LW_law_679 : decode Y_LW_law.2.1 679 = .ok (.aload_n 3, 1) := by decide +kernel
theorem d_LW_law_680 : decode Y_LW_law.2.1 680 = .ok (.iconst (0), 1) := by decide +kernel
theorem d_LW_law_681 : decode Y_LW_law.2.1 681 = .ok (.laload, 1) := by decide +kernel
theorem d_LW_law_682 : decode Y_LW_law.2.1 682 = .ok (.iload 6, 2) := by decide +kernel
theorem d_LW_law_684 : decode Y_LW_law.2.1 684 = .ok (.i2l, 1) := by decide +kernel
theorem d_LW_law_685 : decode Y_LW_law.2.1 685 = .ok (.lcmp, 1) := by decide +kernel
theorem d_LW_law_686 : decode Y_LW_law.2.1 686 = .ok (.ifCond .eq (5), 3) := by decide +kernel
theorem d_LW_law_689 : decode Y_LW_law.2.1 689 = .ok (.iconst (0), 1) := by decide +kernel
theorem d_LW_law_690 : decode Y_LW_law.2.1 690 = .ok (.ireturn, 1) := by decide +kernel
theorem d_LW_law_691 : decode Y_LW_law.2.1 691 = .ok (.goto (1144), 3) := by decide +kernel
theorem d_LW_law_694 : decode Y_LW_law.2.1 694 = .ok (.aload_n 1, 1) := by decide +kernel
theorem d_LW_law_695 : decode Y_LW_law.2.1 695 = .ok (.aload_n 0, 1) := by decide +kernel
theorem d_LW_law_696 : decode Y_LW_law.2.1 696 = .ok (.iload 4, 2) := by decide +kernel
theorem d_LW_law_698 : decode Y_LW_law.2.1 698 = .ok (.iconst (1), 1) := by decide +kernel
theorem d_LW_law_699 : decode Y_LW_law.2.1 699 = .ok (.iadd, 1) := by decide +kernel
theorem d_LW_law_700 : decode Y_LW_law.2.1 700 = .ok (.iaload, 1) := by decide +kernel
theorem d_LW_law_701 : decode Y_LW_law.2.1 701 = .ok (.aload_n 0, 1) := by decide +kernel
theorem d_LW_law_702 : decode Y_LW_law.2.1 702 = .ok (.iload 4, 2) := by decide +kernel
theorem d_LW_law_704 : decode Y_LW_law.2.1 704 = .ok (.iconst (2), 1) := by decide +kernel
theorem d_LW_law_705 : decode Y_LW_law.2.1 705 = .ok (.iadd, 1) := by decide +kernel
theorem d_LW_law_706 : decode Y_LW_law.2.1 706 = .ok (.iaload, 1) := by decide +kernel
theorem d_LW_law_707 : decode Y_LW_law.2.1 707 = .ok (.aload_n 0, 1) := by decide +kernel
theorem d_LW_law_708 : decode Y_LW_law.2.1 708 = .ok (.iload 4, 2) := by decide +kernel
theorem d_LW_law_710 : decode Y_LW_law.2.1 710 = .ok (.iconst (3), 1) := by decide +kernel
theorem d_LW_law_711 : decode Y_LW_law.2.1 711 = .ok (.iadd, 1) := by decide +kernel
theorem d_LW_law_712 : decode Y_LW_law.2.1 712 = .ok (.iaload, 1) := by decide +kernel
theorem d_LW_law_713 : decode Y_LW_law.2.1 713 = .ok (.aload_n 0, 1) := by decide +kernel
theorem d_LW_law_714 : decode Y_LW_law.2.1 714 = .ok (.iload 4, 2) := by decide +kernel
theorem d_LW_law_716 : decode Y_LW_law.2.1 716 = .ok (.iconst (4), 1) := by decide +kernel
theorem d_LW_law_717 : decode Y_LW_law.2.1 717 = .ok (.iadd, 1) := by decide +kernel
theorem d_LW_law_718 : decode Y_LW_law.2.1 718 = .ok (.iaload, 1) := by decide +kernel
theorem d_LW_law_719 : decode Y_LW_law.2.1 719 = .ok (.aload_n 0, 1) := by decide +kernel
theorem d_LW_law_720 : decode Y_LW_law.2.1 720 = .ok (.iload 4, 2) := by decide +kernel
theorem d_LW_law_722 : decode Y_LW_law.2.1 722 = .ok (.iconst (5), 1) := by decide +kernel
theorem d_LW_law_723 : decode Y_LW_law.2.1 723 = .ok (.iadd, 1) := by decide +kernel
theorem d_LW_law_724 : decode Y_LW_law.2.1 724 = .ok (.iaload, 1) := by decide +kernel
theorem d_LW_law_725 : decode Y_LW_law.2.1 725 = .ok (.aload_n 3, 1) := by decide +kernel
theorem d_LW_law_726 : decode Y_LW_law.2.1 726 = .ok (.invokestatic 139, 3) := by decide +kernel
theorem d_LW_law_729 : decode Y_LW_law.2.1 729 = .ok (.istore 5, 2) := by decide +kernel
theorem d_LW_law_731 : decode Y_LW_law.2.1 731 = .ok (.aload_n 2, 1) := by decide +kernel
theorem d_LW_law_732 : decode Y_LW_law.2.1 732 = .ok (.aload_n 0, 1) := by decide +kernel
theorem d_LW_law_733 : decode Y_LW_law.2.1 733 = .ok (.iload 4, 2) := by decide +kernel
theorem d_LW_law_735 : decode Y_LW_law.2.1 735 = .ok (.iconst (1), 1) := by decide +kernel
theorem d_LW_law_736 : decode Y_LW_law.2.1 736 = .ok (.iadd, 1) := by decide +kernel
theorem d_LW_law_737 : decode Y_LW_law.2.1 737 = .ok (.iaload, 1) := by decide +kernel
theorem d_LW_law_738 : decode Y_LW_law.2.1 738 = .ok (.aload_n 0, 1) := by decide +kernel
theorem d_LW_law_739 : decode Y_LW_law.2.1 739 = .ok (.iload 4, 2) := by decide +kernel
theorem d_LW_law_741 : decode Y_LW_law.2.1 741 = .ok (.iconst (2), 1) := by decide +kernel
theorem d_LW_law_742 : decode Y_LW_law.2.1 742 = .ok (.iadd, 1) := by decide +kernel
theorem d_LW_law_743 : decode Y_LW_law.2.1 743 = .ok (.iaload, 1) := by decide +kernel
theorem d_LW_law_744 : decode Y_LW_law.2.1 744 = .ok (.aload_n 0, 1) := by decide +kernel
theorem d_LW_law_745 : decode Y_LW_law.2.1 745 = .ok (.iload 4, 2) := by decide +kernel
theorem d_LW_law_747 : decode Y_LW_law.2.1 747 = .ok (.iconst (3), 1) := by decide +kernel
theorem d_LW_law_748 : decode Y_LW_law.2.1 748 = .ok (.iadd, 1) := by decide +kernel
theorem d_LW_law_749 : decode Y_LW_law.2.1 749 = .ok (.iaload, 1) := by decide +kernel
theorem d_LW_law_750 : decode Y_LW_law.2.1 750 = .ok (.aload_n 0, 1) := by decide +kernel
theorem d_LW_law_751 : decode Y_LW_law.2.1 751 = .ok (.iload 4, 2) := by decide +kernel
theorem d_LW_law_753 : decode Y_LW_law.2.1 753 = .ok (.iconst (4), 1) := by decide +kernel
theorem d_LW_law_754 : decode Y_LW_law.2.1 754 = .ok (.iadd, 1) := by decide +kernel
theorem d_LW_law_755 : decode Y_LW_law.2.1 755 = .ok (.iaload, 1) := by decide +kernel
theorem d_LW_law_756 : decode Y_LW_law.2.1 756 = .ok (.aload_n 0, 1) := by decide +kernel
theorem d_LW_law_757 : decode Y_LW_law.2.1 757 = .ok (.iload 4, 2) := by decide +kernel
theorem d_LW_law_759 : decode Y_LW_law.2.1 759 = .ok (.iconst (5), 1) := by decide +kernel
theorem d_LW_law_760 : decode Y_LW_law.2.1 760 = .ok (.iadd, 1) := by decide +kernel
theorem d_LW_law_761 : decode Y_LW_law.2.1 761 = .ok (.iaload, 1) := by decide +kernel
theorem d_LW_law_762 : decode Y_LW_law.2.1 762 = .ok (.invokevirtual 142, 3) := by decide +kernel
theorem d_LW_law_765 : decode Y_LW_law.2.1 765 = .ok (.istore 6, 2) := by decide +kernel
theorem d_LW_law_767 : decode Y_LW_law.2.1 767 = .ok (.aload_n 2, 1) := by decide +kernel
theorem d_LW_law_768 : decode Y_LW_law.2.1 768 = .ok (.invokevirtual 104, 3) := by decide +kernel
theorem d_LW_law_771 : decode Y_LW_law.2.1 771 = .ok (.iload 5, 2) := by decide +kernel
theorem d_LW_law_773 : decode Y_LW_law.2.1 773 = .ok (.if_icmp .eq (5), 3) := by decide +kernel
theorem d_LW_law_776 : decode Y_LW_law.2.1 776 = .ok (.iconst (0), 1) := by decide +kernel
theorem d_LW_law_777 : decode Y_LW_law.2.1 777 = .ok (.ireturn, 1) := by decide +kernel
theorem d_LW_law_778 : decode Y_LW_law.2.1 778 = .ok (.iload 5, 2) := by decide +kernel
theorem d_LW_law_780 : decode Y_LW_law.2.1 780 = .ok (.ifCond .ne (15), 3) := by decide +kernel
theorem d_LW_law_783 : decode Y_LW_law.2.1 783 = .ok (.aload_n 3, 1) := by decide +kernel
theorem d_LW_law_784 : decode Y_LW_law.2.1 784 = .ok (.iconst (0), 1) := by decide +kernel
theorem d_LW_law_785 : decode Y_LW_law.2.1 785 = .ok (.laload, 1) := by decide +kernel
theorem d_LW_law_786 : decode Y_LW_law.2.1 786 = .ok (.iload 6, 2) := by decide +kernel
theorem d_LW_law_788 : decode Y_LW_law.2.1 788 = .ok (.i2l, 1) := by decide +kernel
theorem d_LW_law_789 : decode Y_LW_law.2.1 789 = .ok (.lcmp, 1) := by decide +kernel
theorem d_LW_law_790 : decode Y_LW_law.2.1 790 = .ok (.ifCond .eq (5), 3) := by decide +kernel
theorem d_LW_law_793 : decode Y_LW_law.2.1 793 = .ok (.iconst (0), 1) := by decide +kernel
theorem d_LW_law_794 : decode Y_LW_law.2.1 794 = .ok (.ireturn, 1) := by decide +kernel
theorem d_LW_law_795 : decode Y_LW_law.2.1 795 = .ok (.goto (1040), 3) := by decide +kernel
theorem d_LW_law_798 : decode Y_LW_law.2.1 798 = .ok (.aload_n 1, 1) := by decide +kernel
theorem d_LW_law_799 : decode Y_LW_law.2.1 799 = .ok (.aload_n 0, 1) := by decide +kernel
theorem d_LW_law_800 : decode Y_LW_law.2.1 800 = .ok (.iload 4, 2) := by decide +kernel
theorem d_LW_law_802 : decode Y_LW_law.2.1 802 = .ok (.iconst (1), 1) := by decide +kernel
theorem d_LW_law_803 : decode Y_LW_law.2.1 803 = .ok (.iadd, 1) := by decide +kernel
theorem d_LW_law_804 : decode Y_LW_law.2.1 804 = .ok (.iaload, 1) := by decide +kernel
theorem d_LW_law_805 : decode Y_LW_law.2.1 805 = .ok (.aload_n 0, 1) := by decide +kernel
theorem d_LW_law_806 : decode Y_LW_law.2.1 806 = .ok (.iload 4, 2) := by decide +kernel
theorem d_LW_law_808 : decode Y_LW_law.2.1 808 = .ok (.iconst (2), 1) := by decide +kernel
theorem d_LW_law_809 : decode Y_LW_law.2.1 809 = .ok (.iadd, 1) := by decide +kernel
theorem d_LW_law_810 : decode Y_LW_law.2.1 810 = .ok (.iaload, 1) := by decide +kernel
theorem d_LW_law_811 : decode Y_LW_law.2.1 811 = .ok (.aload_n 0, 1) := by decide +kernel
theorem d_LW_law_812 : decode Y_LW_law.2.1 812 = .ok (.iload 4, 2) := by decide +kernel
theorem d_LW_law_814 : decode Y_LW_law.2.1 814 = .ok (.iconst (3), 1) := by decide +kernel
theorem d_LW_law_815 : decode Y_LW_law.2.1 815 = .ok (.iadd, 1) := by decide +kernel
theorem d_LW_law_816 : decode Y_LW_law.2.1 816 = .ok (.iaload, 1) := by decide +kernel
theorem d_LW_law_817 : decode Y_LW_law.2.1 817 = .ok (.aload_n 0, 1) := by decide +kernel
theorem d_LW_law_818 : decode Y_LW_law.2.1 818 = .ok (.iload 4, 2) := by decide +kernel
theorem d_LW_law_820 : decode Y_LW_law.2.1 820 = .ok (.iconst (4), 1) := by decide +kernel
theorem d_LW_law_821 : decode Y_LW_law.2.1 821 = .ok (.iadd, 1) := by decide +kernel
theorem d_LW_law_822 : decode Y_LW_law.2.1 822 = .ok (.iaload, 1) := by decide +kernel
theorem d_LW_law_823 : decode Y_LW_law.2.1 823 = .ok (.aload_n 3, 1) := by decide +kernel
theorem d_LW_law_824 : decode Y_LW_law.2.1 824 = .ok (.invokestatic 143, 3) := by decide +kernel
theorem d_LW_law_827 : decode Y_LW_law.2.1 827 = .ok (.istore 5, 2) := by decide +kernel
theorem d_LW_law_829 : decode Y_LW_law.2.1 829 = .ok (.aload_n 2, 1) := by decide +kernel
theorem d_LW_law_830 : decode Y_LW_law.2.1 830 = .ok (.aload_n 0, 1) := by decide +kernel
theorem d_LW_law_831 : decode Y_LW_law.2.1 831 = .ok (.iload 4, 2) := by decide +kernel
theorem d_LW_law_833 : decode Y_LW_law.2.1 833 = .ok (.iconst (1), 1) := by decide +kernel
theorem d_LW_law_834 : decode Y_LW_law.2.1 834 = .ok (.iadd, 1) := by decide +kernel
theorem d_LW_law_835 : decode Y_LW_law.2.1 835 = .ok (.iaload, 1) := by decide +kernel
theorem d_LW_law_836 : decode Y_LW_law.2.1 836 = .ok (.aload_n 0, 1) := by decide +kernel
theorem d_LW_law_837 : decode Y_LW_law.2.1 837 = .ok (.iload 4, 2) := by decide +kernel
theorem d_LW_law_839 : decode Y_LW_law.2.1 839 = .ok (.iconst (2), 1) := by decide +kernel
theorem d_LW_law_840 : decode Y_LW_law.2.1 840 = .ok (.iadd, 1) := by decide +kernel
theorem d_LW_law_841 : decode Y_LW_law.2.1 841 = .ok (.iaload, 1) := by decide +kernel
theorem d_LW_law_842 : decode Y_LW_law.2.1 842 = .ok (.aload_n 0, 1) := by decide +kernel
theorem d_LW_law_843 : decode Y_LW_law.2.1 843 = .ok (.iload 4, 2) := by decide +kernel
theorem d_LW_law_845 : decode Y_LW_law.2.1 845 = .ok (.iconst (3), 1) := by decide +kernel
theorem d_LW_law_846 : decode Y_LW_law.2.1 846 = .ok (.iadd, 1) := by decide +kernel
theorem d_LW_law_847 : decode Y_LW_law.2.1 847 = .ok (.iaload, 1) := by decide +kernel
theorem d_LW_law_848 : decode Y_LW_law.2.1 848 = .ok (.aload_n 0, 1) := by decide +kernel
theorem d_LW_law_849 : decode Y_LW_law.2.1 849 = .ok (.iload 4, 2) := by decide +kernel
theorem d_LW_law_851 : decode Y_LW_law.2.1 851 = .ok (.iconst (4), 1) := by decide +kernel
theorem d_LW_law_852 : decode Y_LW_law.2.1 852 = .ok (.iadd, 1) := by decide +kernel
theorem d_LW_law_853 : decode Y_LW_law.2.1 853 = .ok (.iaload, 1) := by decide +kernel
theorem d_LW_law_854 : decode Y_LW_law.2.1 854 = .ok (.invokevirtual 146, 3) := by decide +kernel
theorem d_LW_law_857 : decode Y_LW_law.2.1 857 = .ok (.istore 6, 2) := by decide +kernel
theorem d_LW_law_859 : decode Y_LW_law.2.1 859 = .ok (.aload_n 2, 1) := by decide +kernel
theorem d_LW_law_860 : decode Y_LW_law.2.1 860 = .ok (.invokevirtual 104, 3) := by decide +kernel
theorem d_LW_law_863 : decode Y_LW_law.2.1 863 = .ok (.iload 5, 2) := by decide +kernel
theorem d_LW_law_865 : decode Y_LW_law.2.1 865 = .ok (.if_icmp .eq (5), 3) := by decide +kernel
theorem d_LW_law_868 : decode Y_LW_law.2.1 868 = .ok (.iconst (0), 1) := by decide +kernel
theorem d_LW_law_869 : decode Y_LW_law.2.1 869 = .ok (.ireturn, 1) := by decide +kernel
theorem d_LW_law_870 : decode Y_LW_law.2.1 870 = .ok (.iload 5, 2) := by decide +kernel
theorem d_LW_law_872 : decode Y_LW_law.2.1 872 = .ok (.ifCond .ne (15), 3) := by decide +kernel
theorem d_LW_law_875 : decode Y_LW_law.2.1 875 = .ok (.aload_n 3, 1) := by decide +kernel
theorem d_LW_law_876 : decode Y_LW_law.2.1 876 = .ok (.iconst (0), 1) := by decide +kernel
theorem d_LW_law_877 : decode Y_LW_law.2.1 877 = .ok (.laload, 1) := by decide +kernel
theorem d_LW_law_878 : decode Y_LW_law.2.1 878 = .ok (.iload 6, 2) := by decide +kernel
theorem d_LW_law_880 : decode Y_LW_law.2.1 880 = .ok (.i2l, 1) := by decide +kernel
theorem d_LW_law_881 : decode Y_LW_law.2.1 881 = .ok (.lcmp, 1) := by decide +kernel
theorem d_LW_law_882 : decode Y_LW_law.2.1 882 = .ok (.ifCond .eq (5), 3) := by decide +kernel
theorem d_LW_law_885 : decode Y_LW_law.2.1 885 = .ok (.iconst (0), 1) := by decide +kernel
theorem d_LW_law_886 : decode Y_LW_law.2.1 886 = .ok (.ireturn, 1) := by decide +kernel
theorem d_LW_law_887 : decode Y_LW_law.2.1 887 = .ok (.goto (948), 3) := by decide +kernel
theorem d_LW_law_890 : decode Y_LW_law.2.1 890 = .ok (.aload_n 1, 1) := by decide +kernel
theorem d_LW_law_891 : decode Y_LW_law.2.1 891 = .ok (.aload_n 0, 1) := by decide +kernel
theorem d_LW_law_892 : decode Y_LW_law.2.1 892 = .ok (.iload 4, 2) := by decide +kernel
theorem d_LW_law_894 : decode Y_LW_law.2.1 894 = .ok (.iconst (1), 1) := by decide +kernel
theorem d_LW_law_895 : decode Y_LW_law.2.1 895 = .ok (.iadd, 1) := by decide +kernel
theorem d_LW_law_896 : decode Y_LW_law.2.1 896 = .ok (.iaload, 1) := by decide +kernel
theorem d_LW_law_897 : decode Y_LW_law.2.1 897 = .ok (.ifCond .eq (7), 3) := by decide +kernel
theorem d_LW_law_900 : decode Y_LW_law.2.1 900 = .ok (.iconst (1), 1) := by decide +kernel
theorem d_LW_law_901 : decode Y_LW_law.2.1 901 = .ok (.goto (4), 3) := by decide +kernel
theorem d_LW_law_904 : decode Y_LW_law.2.1 904 = .ok (.iconst (0), 1) := by decide +kernel
theorem d_LW_law_905 : decode Y_LW_law.2.1 905 = .ok (.aload_n 0, 1) := by decide +kernel
theorem d_LW_law_906 : decode Y_LW_law.2.1 906 = .ok (.iload 4, 2) := by decide +kernel
theorem d_LW_law_908 : decode Y_LW_law.2.1 908 = .ok (.iconst (2), 1) := by decide +kernel
theorem d_LW_law_909 : decode Y_LW_law.2.1 909 = .ok (.iadd, 1) := by decide +kernel
theorem d_LW_law_910 : decode Y_LW_law.2.1 910 = .ok (.iaload, 1) := by decide +kernel
theorem d_LW_law_911 : decode Y_LW_law.2.1 911 = .ok (.aload_n 3, 1) := by decide +kernel
theorem d_LW_law_912 : decode Y_LW_law.2.1 912 = .ok (.invokestatic 147, 3) := by decide +kernel
theorem d_LW_law_915 : decode Y_LW_law.2.1 915 = .ok (.istore 5, 2) := by decide +kernel
theorem d_LW_law_917 : decode Y_LW_law.2.1 917 = .ok (.aload_n 2, 1) := by decide +kernel
theorem d_LW_law_918 : decode Y_LW_law.2.1 918 = .ok (.aload_n 0, 1) := by decide +kernel
theorem d_LW_law_919 : decode Y_LW_law.2.1 919 = .ok (.iload 4, 2) := by decide +kernel
theorem d_LW_law_921 : decode Y_LW_law.2.1 921 = .ok (.iconst (1), 1) := by decide +kernel
theorem d_LW_law_922 : decode Y_LW_law.2.1 922 = .ok (.iadd, 1) := by decide +kernel
theorem d_LW_law_923 : decode Y_LW_law.2.1 923 = .ok (.iaload, 1) := by decide +kernel
theorem d_LW_law_924 : decode Y_LW_law.2.1 924 = .ok (.ifCond .eq (7), 3) := by decide +kernel
theorem d_LW_law_927 : decode Y_LW_law.2.1 927 = .ok (.iconst (1), 1) := by decide +kernel
theorem d_LW_law_928 : decode Y_LW_law.2.1 928 = .ok (.goto (4), 3) := by decide +kernel
theorem d_LW_law_931 : decode Y_LW_law.2.1 931 = .ok (.iconst (0), 1) := by decide +kernel
theorem d_LW_law_932 : decode Y_LW_law.2.1 932 = .ok (.aload_n 0, 1) := by decide +kernel
theorem d_LW_law_933 : decode Y_LW_law.2.1 933 = .ok (.iload 4, 2) := by decide +kernel
theorem d_LW_law_935 : decode Y_LW_law.2.1 935 = .ok (.iconst (2), 1) := by decide +kernel
theorem d_LW_law_936 : decode Y_LW_law.2.1 936 = .ok (.iadd, 1) := by decide +kernel
theorem d_LW_law_937 : decode Y_LW_law.2.1 937 = .ok (.iaload, 1) := by decide +kernel
theorem d_LW_law_938 : decode Y_LW_law.2.1 938 = .ok (.invokevirtual 150, 3) := by decide +kernel
theorem d_LW_law_941 : decode Y_LW_law.2.1 941 = .ok (.istore 6, 2) := by decide +kernel
theorem d_LW_law_943 : decode Y_LW_law.2.1 943 = .ok (.aload_n 2, 1) := by decide +kernel
theorem d_LW_law_944 : decode Y_LW_law.2.1 944 = .ok (.invokevirtual 104, 3) := by decide +kernel
theorem d_LW_law_947 : decode Y_LW_law.2.1 947 = .ok (.iload 5, 2) := by decide +kernel
theorem d_LW_law_949 : decode Y_LW_law.2.1 949 = .ok (.if_icmp .eq (5), 3) := by decide +kernel
theorem d_LW_law_952 : decode Y_LW_law.2.1 952 = .ok (.iconst (0), 1) := by decide +kernel
theorem d_LW_law_953 : decode Y_LW_law.2.1 953 = .ok (.ireturn, 1) := by decide +kernel
theorem d_LW_law_954 : decode Y_LW_law.2.1 954 = .ok (.iload 5, 2) := by decide +kernel
theorem d_LW_law_956 : decode Y_LW_law.2.1 956 = .ok (.ifCond .ne (15), 3) := by decide +kernel
theorem d_LW_law_959 : decode Y_LW_law.2.1 959 = .ok (.aload_n 3, 1) := by decide +kernel
theorem d_LW_law_960 : decode Y_LW_law.2.1 960 = .ok (.iconst (0), 1) := by decide +kernel
theorem d_LW_law_961 : decode Y_LW_law.2.1 961 = .ok (.laload, 1) := by decide +kernel
theorem d_LW_law_962 : decode Y_LW_law.2.1 962 = .ok (.iload 6, 2) := by decide +kernel
theorem d_LW_law_964 : decode Y_LW_law.2.1 964 = .ok (.i2l, 1) := by decide +kernel
theorem d_LW_law_965 : decode Y_LW_law.2.1 965 = .ok (.lcmp, 1) := by decide +kernel
theorem d_LW_law_966 : decode Y_LW_law.2.1 966 = .ok (.ifCond .eq (5), 3) := by decide +kernel
theorem d_LW_law_969 : decode Y_LW_law.2.1 969 = .ok (.iconst (0), 1) := by decide +kernel
theorem d_LW_law_970 : decode Y_LW_law.2.1 970 = .ok (.ireturn, 1) := by decide +kernel
theorem d_LW_law_971 : decode Y_LW_law.2.1 971 = .ok (.goto (864), 3) := by decide +kernel
theorem d_LW_law_974 : decode Y_LW_law.2.1 974 = .ok (.aload_n 1, 1) := by decide +kernel
theorem d_LW_law_975 : decode Y_LW_law.2.1 975 = .ok (.aload_n 0, 1) := by decide +kernel
theorem d_LW_law_976 : decode Y_LW_law.2.1 976 = .ok (.iload 4, 2) := by decide +kernel
theorem d_LW_law_978 : decode Y_LW_law.2.1 978 = .ok (.iconst (1), 1) := by decide +kernel
theorem d_LW_law_979 : decode Y_LW_law.2.1 979 = .ok (.iadd, 1) := by decide +kernel
theorem d_LW_law_980 : decode Y_LW_law.2.1 980 = .ok (.iaload, 1) := by decide +kernel
theorem d_LW_law_981 : decode Y_LW_law.2.1 981 = .ok (.aload_n 0, 1) := by decide +kernel
theorem d_LW_law_982 : decode Y_LW_law.2.1 982 = .ok (.iload 4, 2) := by decide +kernel
theorem d_LW_law_984 : decode Y_LW_law.2.1 984 = .ok (.iconst (2), 1) := by decide +kernel
theorem d_LW_law_985 : decode Y_LW_law.2.1 985 = .ok (.iadd, 1) := by decide +kernel
theorem d_LW_law_986 : decode Y_LW_law.2.1 986 = .ok (.iaload, 1) := by decide +kernel
theorem d_LW_law_987 : decode Y_LW_law.2.1 987 = .ok (.ifCond .eq (7), 3) := by decide +kernel
theorem d_LW_law_990 : decode Y_LW_law.2.1 990 = .ok (.iconst (1), 1) := by decide +kernel
theorem d_LW_law_991 : decode Y_LW_law.2.1 991 = .ok (.goto (4), 3) := by decide +kernel
theorem d_LW_law_994 : decode Y_LW_law.2.1 994 = .ok (.iconst (0), 1) := by decide +kernel
theorem d_LW_law_995 : decode Y_LW_law.2.1 995 = .ok (.aload_n 3, 1) := by decide +kernel
theorem d_LW_law_996 : decode Y_LW_law.2.1 996 = .ok (.invokestatic 151, 3) := by decide +kernel
theorem d_LW_law_999 : decode Y_LW_law.2.1 999 = .ok (.istore 5, 2) := by decide +kernel
theorem d_LW_law_1001 : decode Y_LW_law.2.1 1001 = .ok (.aload_n 2, 1) := by decide +kernel
theorem d_LW_law_1002 : decode Y_LW_law.2.1 1002 = .ok (.aload_n 0, 1) := by decide +kernel
theorem d_LW_law_1003 : decode Y_LW_law.2.1 1003 = .ok (.iload 4, 2) := by decide +kernel
theorem d_LW_law_1005 : decode Y_LW_law.2.1 1005 = .ok (.iconst (1), 1) := by decide +kernel
theorem d_LW_law_1006 : decode Y_LW_law.2.1 1006 = .ok (.iadd, 1) := by decide +kernel
theorem d_LW_law_1007 : decode Y_LW_law.2.1 1007 = .ok (.iaload, 1) := by decide +kernel
theorem d_LW_law_1008 : decode Y_LW_law.2.1 1008 = .ok (.aload_n 0, 1) := by decide +kernel
theorem d_LW_law_1009 : decode Y_LW_law.2.1 1009 = .ok (.iload 4, 2) := by decide +kernel
theorem d_LW_law_1011 : decode Y_LW_law.2.1 1011 = .ok (.iconst (2), 1) := by decide +kernel
theorem d_LW_law_1012 : decode Y_LW_law.2.1 1012 = .ok (.iadd, 1) := by decide +kernel
theorem d_LW_law_1013 : decode Y_LW_law.2.1 1013 = .ok (.iaload, 1) := by decide +kernel
theorem d_LW_law_1014 : decode Y_LW_law.2.1 1014 = .ok (.ifCond .eq (7), 3) := by decide +kernel
theorem d_LW_law_1017 : decode Y_LW_law.2.1 1017 = .ok (.iconst (1), 1) := by decide +kernel
theorem d_LW_law_1018 : decode Y_LW_law.2.1 1018 = .ok (.goto (4), 3) := by decide +kernel
theorem d_LW_law_1021 : decode Y_LW_law.2.1 1021 = .ok (.iconst (0), 1) := by decide +kernel
theorem d_LW_law_1022 : decode Y_LW_law.2.1 1022 = .ok (.invokevirtual 154, 3) := by decide +kernel
theorem d_LW_law_1025 : decode Y_LW_law.2.1 1025 = .ok (.istore 6, 2) := by decide +kernel
theorem d_LW_law_1027 : decode Y_LW_law.2.1 1027 = .ok (.aload_n 2, 1) := by decide +kernel
theorem d_LW_law_1028 : decode Y_LW_law.2.1 1028 = .ok (.invokevirtual 104, 3) := by decide +kernel
theorem d_LW_law_1031 : decode Y_LW_law.2.1 1031 = .ok (.iload 5, 2) := by decide +kernel
theorem d_LW_law_1033 : decode Y_LW_law.2.1 1033 = .ok (.if_icmp .eq (5), 3) := by decide +kernel
theorem d_LW_law_1036 : decode Y_LW_law.2.1 1036 = .ok (.iconst (0), 1) := by decide +kernel
theorem d_LW_law_1037 : decode Y_LW_law.2.1 1037 = .ok (.ireturn, 1) := by decide +kernel
theorem d_LW_law_1038 : decode Y_LW_law.2.1 1038 = .ok (.iload 5, 2) := by decide +kernel
theorem d_LW_law_1040 : decode Y_LW_law.2.1 1040 = .ok (.ifCond .ne (15), 3) := by decide +kernel
theorem d_LW_law_1043 : decode Y_LW_law.2.1 1043 = .ok (.aload_n 3, 1) := by decide +kernel
theorem d_LW_law_1044 : decode Y_LW_law.2.1 1044 = .ok (.iconst (0), 1) := by decide +kernel
theorem d_LW_law_1045 : decode Y_LW_law.2.1 1045 = .ok (.laload, 1) := by decide +kernel
theorem d_LW_law_1046 : decode Y_LW_law.2.1 1046 = .ok (.iload 6, 2) := by decide +kernel
theorem d_LW_law_1048 : decode Y_LW_law.2.1 1048 = .ok (.i2l, 1) := by decide +kernel
theorem d_LW_law_1049 : decode Y_LW_law.2.1 1049 = .ok (.lcmp, 1) := by decide +kernel
theorem d_LW_law_1050 : decode Y_LW_law.2.1 1050 = .ok (.ifCond .eq (5), 3) := by decide +kernel
theorem d_LW_law_1053 : decode Y_LW_law.2.1 1053 = .ok (.iconst (0), 1) := by decide +kernel
theorem d_LW_law_1054 : decode Y_LW_law.2.1 1054 = .ok (.ireturn, 1) := by decide +kernel
theorem d_LW_law_1055 : decode Y_LW_law.2.1 1055 = .ok (.goto (780), 3) := by decide +kernel
theorem d_LW_law_1058 : decode Y_LW_law.2.1 1058 = .ok (.aload_n 1, 1) := by decide +kernel
theorem d_LW_law_1059 : decode Y_LW_law.2.1 1059 = .ok (.aload_n 0, 1) := by decide +kernel
theorem d_LW_law_1060 : decode Y_LW_law.2.1 1060 = .ok (.iload 4, 2) := by decide +kernel
theorem d_LW_law_1062 : decode Y_LW_law.2.1 1062 = .ok (.iconst (1), 1) := by decide +kernel
theorem d_LW_law_1063 : decode Y_LW_law.2.1 1063 = .ok (.iadd, 1) := by decide +kernel
theorem d_LW_law_1064 : decode Y_LW_law.2.1 1064 = .ok (.iaload, 1) := by decide +kernel
theorem d_LW_law_1065 : decode Y_LW_law.2.1 1065 = .ok (.aload_n 0, 1) := by decide +kernel
theorem d_LW_law_1066 : decode Y_LW_law.2.1 1066 = .ok (.iload 4, 2) := by decide +kernel
theorem d_LW_law_1068 : decode Y_LW_law.2.1 1068 = .ok (.iconst (2), 1) := by decide +kernel
theorem d_LW_law_1069 : decode Y_LW_law.2.1 1069 = .ok (.iadd, 1) := by decide +kernel
theorem d_LW_law_1070 : decode Y_LW_law.2.1 1070 = .ok (.iaload, 1) := by decide +kernel
theorem d_LW_law_1071 : decode Y_LW_law.2.1 1071 = .ok (.aload_n 0, 1) := by decide +kernel
theorem d_LW_law_1072 : decode Y_LW_law.2.1 1072 = .ok (.iload 4, 2) := by decide +kernel
theorem d_LW_law_1074 : decode Y_LW_law.2.1 1074 = .ok (.iconst (3), 1) := by decide +kernel
theorem d_LW_law_1075 : decode Y_LW_law.2.1 1075 = .ok (.iadd, 1) := by decide +kernel
theorem d_LW_law_1076 : decode Y_LW_law.2.1 1076 = .ok (.iaload, 1) := by decide +kernel
theorem d_LW_law_1077 : decode Y_LW_law.2.1 1077 = .ok (.aload_n 3, 1) := by decide +kernel
theorem d_LW_law_1078 : decode Y_LW_law.2.1 1078 = .ok (.invokestatic 155, 3) := by decide +kernel
theorem d_LW_law_1081 : decode Y_LW_law.2.1 1081 = .ok (.istore 5, 2) := by decide +kernel
theorem d_LW_law_1083 : decode Y_LW_law.2.1 1083 = .ok (.aload_n 2, 1) := by decide +kernel
theorem d_LW_law_1084 : decode Y_LW_law.2.1 1084 = .ok (.aload_n 0, 1) := by decide +kernel
theorem d_LW_law_1085 : decode Y_LW_law.2.1 1085 = .ok (.iload 4, 2) := by decide +kernel
theorem d_LW_law_1087 : decode Y_LW_law.2.1 1087 = .ok (.iconst (1), 1) := by decide +kernel
theorem d_LW_law_1088 : decode Y_LW_law.2.1 1088 = .ok (.iadd, 1) := by decide +kernel
theorem d_LW_law_1089 : decode Y_LW_law.2.1 1089 = .ok (.iaload, 1) := by decide +kernel
theorem d_LW_law_1090 : decode Y_LW_law.2.1 1090 = .ok (.aload_n 0, 1) := by decide +kernel
theorem d_LW_law_1091 : decode Y_LW_law.2.1 1091 = .ok (.iload 4, 2) := by decide +kernel
theorem d_LW_law_1093 : decode Y_LW_law.2.1 1093 = .ok (.iconst (2), 1) := by decide +kernel
theorem d_LW_law_1094 : decode Y_LW_law.2.1 1094 = .ok (.iadd, 1) := by decide +kernel
theorem d_LW_law_1095 : decode Y_LW_law.2.1 1095 = .ok (.iaload, 1) := by decide +kernel
theorem d_LW_law_1096 : decode Y_LW_law.2.1 1096 = .ok (.aload_n 0, 1) := by decide +kernel
theorem d_LW_law_1097 : decode Y_LW_law.2.1 1097 = .ok (.iload 4, 2) := by decide +kernel
theorem d_LW_law_1099 : decode Y_LW_law.2.1 1099 = .ok (.iconst (3), 1) := by decide +kernel
theorem d_LW_law_1100 : decode Y_LW_law.2.1 1100 = .ok (.iadd, 1) := by decide +kernel
theorem d_LW_law_1101 : decode Y_LW_law.2.1 1101 = .ok (.iaload, 1) := by decide +kernel
theorem d_LW_law_1102 : decode Y_LW_law.2.1 1102 = .ok (.invokevirtual 157, 3) := by decide +kernel
theorem d_LW_law_1105 : decode Y_LW_law.2.1 1105 = .ok (.istore 6, 2) := by decide +kernel
theorem d_LW_law_1107 : decode Y_LW_law.2.1 1107 = .ok (.aload_n 2, 1) := by decide +kernel
theorem d_LW_law_1108 : decode Y_LW_law.2.1 1108 = .ok (.invokevirtual 104, 3) := by decide +kernel
theorem d_LW_law_1111 : decode Y_LW_law.2.1 1111 = .ok (.iload 5, 2) := by decide +kernel
theorem d_LW_law_1113 : decode Y_LW_law.2.1 1113 = .ok (.if_icmp .eq (5), 3) := by decide +kernel
theorem d_LW_law_1116 : decode Y_LW_law.2.1 1116 = .ok (.iconst (0), 1) := by decide +kernel
theorem d_LW_law_1117 : decode Y_LW_law.2.1 1117 = .ok (.ireturn, 1) := by decide +kernel
theorem d_LW_law_1118 : decode Y_LW_law.2.1 1118 = .ok (.iload 5, 2) := by decide +kernel
theorem d_LW_law_1120 : decode Y_LW_law.2.1 1120 = .ok (.ifCond .ne (15), 3) := by decide +kernel
theorem d_LW_law_1123 : decode Y_LW_law.2.1 1123 = .ok (.aload_n 3, 1) := by decide +kernel
theorem d_LW_law_1124 : decode Y_LW_law.2.1 1124 = .ok (.iconst (0), 1) := by decide +kernel
theorem d_LW_law_1125 : decode Y_LW_law.2.1 1125 = .ok (.laload, 1) := by decide +kernel
theorem d_LW_law_1126 : decode Y_LW_law.2.1 1126 = .ok (.iload 6, 2) := by decide +kernel
theorem d_LW_law_1128 : decode Y_LW_law.2.1 1128 = .ok (.i2l, 1) := by decide +kernel
theorem d_LW_law_1129 : decode Y_LW_law.2.1 1129 = .ok (.lcmp, 1) := by decide +kernel
theorem d_LW_law_1130 : decode Y_LW_law.2.1 1130 = .ok (.ifCond .eq (5), 3) := by decide +kernel
theorem d_LW_law_1133 : decode Y_LW_law.2.1 1133 = .ok (.iconst (0), 1) := by decide +kernel
theorem d_LW_law_1134 : decode Y_LW_law.2.1 1134 = .ok (.ireturn, 1) := by decide +kernel
theorem d_LW_law_1135 : decode Y_LW_law.2.1 1135 = .ok (.goto (700), 3) := by decide +kernel
theorem d_LW_law_1138 : decode Y_LW_law.2.1 1138 = .ok (.aload_n 1, 1) := by decide +kernel
theorem d_LW_law_1139 : decode Y_LW_law.2.1 1139 = .ok (.aload_n 0, 1) := by decide +kernel
theorem d_LW_law_1140 : decode Y_LW_law.2.1 1140 = .ok (.iload 4, 2) := by decide +kernel
theorem d_LW_law_1142 : decode Y_LW_law.2.1 1142 = .ok (.iconst (1), 1) := by decide +kernel
theorem d_LW_law_1143 : decode Y_LW_law.2.1 1143 = .ok (.iadd, 1) := by decide +kernel
theorem d_LW_law_1144 : decode Y_LW_law.2.1 1144 = .ok (.iaload, 1) := by decide +kernel
theorem d_LW_law_1145 : decode Y_LW_law.2.1 1145 = .ok (.aload_n 3, 1) := by decide +kernel
theorem d_LW_law_1146 : decode Y_LW_law.2.1 1146 = .ok (.invokestatic 158, 3) := by decide +kernel
theorem d_LW_law_1149 : decode Y_LW_law.2.1 1149 = .ok (.istore 5, 2) := by decide +kernel
theorem d_LW_law_1151 : decode Y_LW_law.2.1 1151 = .ok (.aload_n 2, 1) := by decide +kernel
theorem d_LW_law_1152 : decode Y_LW_law.2.1 1152 = .ok (.aload_n 0, 1) := by decide +kernel
theorem d_LW_law_1153 : decode Y_LW_law.2.1 1153 = .ok (.iload 4, 2) := by decide +kernel
theorem d_LW_law_1155 : decode Y_LW_law.2.1 1155 = .ok (.iconst (1), 1) := by decide +kernel
theorem d_LW_law_1156 : decode Y_LW_law.2.1 1156 = .ok (.iadd, 1) := by decide +kernel
theorem d_LW_law_1157 : decode Y_LW_law.2.1 1157 = .ok (.iaload, 1) := by decide +kernel
theorem d_LW_law_1158 : decode Y_LW_law.2.1 1158 = .ok (.invokevirtual 160, 3) := by decide +kernel
theorem d_LW_law_1161 : decode Y_LW_law.2.1 1161 = .ok (.istore 6, 2) := by decide +kernel
theorem d_LW_law_1163 : decode Y_LW_law.2.1 1163 = .ok (.aload_n 2, 1) := by decide +kernel
theorem d_LW_law_1164 : decode Y_LW_law.2.1 1164 = .ok (.invokevirtual 104, 3) := by decide +kernel
theorem d_LW_law_1167 : decode Y_LW_law.2.1 1167 = .ok (.iload 5, 2) := by decide +kernel
theorem d_LW_law_1169 : decode Y_LW_law.2.1 1169 = .ok (.if_icmp .eq (5), 3) := by decide +kernel
theorem d_LW_law_1172 : decode Y_LW_law.2.1 1172 = .ok (.iconst (0), 1) := by decide +kernel
theorem d_LW_law_1173 : decode Y_LW_law.2.1 1173 = .ok (.ireturn, 1) := by decide +kernel
theorem d_LW_law_1174 : decode Y_LW_law.2.1 1174 = .ok (.iload 5, 2) := by decide +kernel
theorem d_LW_law_1176 : decode Y_LW_law.2.1 1176 = .ok (.ifCond .ne (15), 3) := by decide +kernel
theorem d_LW_law_1179 : decode Y_LW_law.2.1 1179 = .ok (.aload_n 3, 1) := by decide +kernel
theorem d_LW_law_1180 : decode Y_LW_law.2.1 1180 = .ok (.iconst (0), 1) := by decide +kernel
theorem d_LW_law_1181 : decode Y_LW_law.2.1 1181 = .ok (.laload, 1) := by decide +kernel
theorem d_LW_law_1182 : decode Y_LW_law.2.1 1182 = .ok (.iload 6, 2) := by decide +kernel
theorem d_LW_law_1184 : decode Y_LW_law.2.1 1184 = .ok (.i2l, 1) := by decide +kernel
theorem d_LW_law_1185 : decode Y_LW_law.2.1 1185 = .ok (.lcmp, 1) := by decide +kernel
theorem d_LW_law_1186 : decode Y_LW_law.2.1 1186 = .ok (.ifCond .eq (5), 3) := by decide +kernel
theorem d_LW_law_1189 : decode Y_LW_law.2.1 1189 = .ok (.iconst (0), 1) := by decide +kernel
theorem d_LW_law_1190 : decode Y_LW_law.2.1 1190 = .ok (.ireturn, 1) := by decide +kernel
theorem d_LW_law_1191 : decode Y_LW_law.2.1 1191 = .ok (.goto (644), 3) := by decide +kernel
theorem d_LW_law_1194 : decode Y_LW_law.2.1 1194 = .ok (.aload_n 1, 1) := by decide +kernel
theorem d_LW_law_1195 : decode Y_LW_law.2.1 1195 = .ok (.aload_n 0, 1) := by decide +kernel
theorem d_LW_law_1196 : decode Y_LW_law.2.1 1196 = .ok (.iload 4, 2) := by decide +kernel
theorem d_LW_law_1198 : decode Y_LW_law.2.1 1198 = .ok (.iconst (1), 1) := by decide +kernel
theorem d_LW_law_1199 : decode Y_LW_law.2.1 1199 = .ok (.iadd, 1) := by decide +kernel
theorem d_LW_law_1200 : decode Y_LW_law.2.1 1200 = .ok (.iaload, 1) := by decide +kernel
theorem d_LW_law_1201 : decode Y_LW_law.2.1 1201 = .ok (.aload_n 0, 1) := by decide +kernel
theorem d_LW_law_1202 : decode Y_LW_law.2.1 1202 = .ok (.iload 4, 2) := by decide +kernel
theorem d_LW_law_1204 : decode Y_LW_law.2.1 1204 = .ok (.iconst (2), 1) := by decide +kernel
theorem d_LW_law_1205 : decode Y_LW_law.2.1 1205 = .ok (.iadd, 1) := by decide +kernel
theorem d_LW_law_1206 : decode Y_LW_law.2.1 1206 = .ok (.iaload, 1) := by decide +kernel
theorem d_LW_law_1207 : decode Y_LW_law.2.1 1207 = .ok (.aload_n 3, 1) := by decide +kernel
theorem d_LW_law_1208 : decode Y_LW_law.2.1 1208 = .ok (.invokestatic 161, 3) := by decide +kernel
theorem d_LW_law_1211 : decode Y_LW_law.2.1 1211 = .ok (.istore 5, 2) := by decide +kernel
theorem d_LW_law_1213 : decode Y_LW_law.2.1 1213 = .ok (.aload_n 2, 1) := by decide +kernel
theorem d_LW_law_1214 : decode Y_LW_law.2.1 1214 = .ok (.aload_n 0, 1) := by decide +kernel
theorem d_LW_law_1215 : decode Y_LW_law.2.1 1215 = .ok (.iload 4, 2) := by decide +kernel
theorem d_LW_law_1217 : decode Y_LW_law.2.1 1217 = .ok (.iconst (1), 1) := by decide +kernel
theorem d_LW_law_1218 : decode Y_LW_law.2.1 1218 = .ok (.iadd, 1) := by decide +kernel
theorem d_LW_law_1219 : decode Y_LW_law.2.1 1219 = .ok (.iaload, 1) := by decide +kernel
theorem d_LW_law_1220 : decode Y_LW_law.2.1 1220 = .ok (.aload_n 0, 1) := by decide +kernel
theorem d_LW_law_1221 : decode Y_LW_law.2.1 1221 = .ok (.iload 4, 2) := by decide +kernel
theorem d_LW_law_1223 : decode Y_LW_law.2.1 1223 = .ok (.iconst (2), 1) := by decide +kernel
theorem d_LW_law_1224 : decode Y_LW_law.2.1 1224 = .ok (.iadd, 1) := by decide +kernel
theorem d_LW_law_1225 : decode Y_LW_law.2.1 1225 = .ok (.iaload, 1) := by decide +kernel
theorem d_LW_law_1226 : decode Y_LW_law.2.1 1226 = .ok (.invokevirtual 163, 3) := by decide +kernel
theorem d_LW_law_1229 : decode Y_LW_law.2.1 1229 = .ok (.istore 6, 2) := by decide +kernel
theorem d_LW_law_1231 : decode Y_LW_law.2.1 1231 = .ok (.aload_n 2, 1) := by decide +kernel
theorem d_LW_law_1232 : decode Y_LW_law.2.1 1232 = .ok (.invokevirtual 104, 3) := by decide +kernel
theorem d_LW_law_1235 : decode Y_LW_law.2.1 1235 = .ok (.iload 5, 2) := by decide +kernel
theorem d_LW_law_1237 : decode Y_LW_law.2.1 1237 = .ok (.if_icmp .eq (5), 3) := by decide +kernel
theorem d_LW_law_1240 : decode Y_LW_law.2.1 1240 = .ok (.iconst (0), 1) := by decide +kernel
theorem d_LW_law_1241 : decode Y_LW_law.2.1 1241 = .ok (.ireturn, 1) := by decide +kernel
theorem d_LW_law_1242 : decode Y_LW_law.2.1 1242 = .ok (.iload 5, 2) := by decide +kernel
theorem d_LW_law_1244 : decode Y_LW_law.2.1 1244 = .ok (.ifCond .ne (15), 3) := by decide +kernel
theorem d_LW_law_1247 : decode Y_LW_law.2.1 1247 = .ok (.aload_n 3, 1) := by decide +kernel
theorem d_LW_law_1248 : decode Y_LW_law.2.1 1248 = .ok (.iconst (0), 1) := by decide +kernel
theorem d_LW_law_1249 : decode Y_LW_law.2.1 1249 = .ok (.laload, 1) := by decide +kernel
theorem d_LW_law_1250 : decode Y_LW_law.2.1 1250 = .ok (.iload 6, 2) := by decide +kernel
theorem d_LW_law_1252 : decode Y_LW_law.2.1 1252 = .ok (.i2l, 1) := by decide +kernel
theorem d_LW_law_1253 : decode Y_LW_law.2.1 1253 = .ok (.lcmp, 1) := by decide +kernel
theorem d_LW_law_1254 : decode Y_LW_law.2.1 1254 = .ok (.ifCond .eq (5), 3) := by decide +kernel
theorem d_LW_law_1257 : decode Y_LW_law.2.1 1257 = .ok (.iconst (0), 1) := by decide +kernel
theorem d_LW_law_1258 : decode Y_LW_law.2.1 1258 = .ok (.ireturn, 1) := by decide +kernel
theorem d_LW_law_1259 : decode Y_LW_law.2.1 1259 = .ok (.goto (576), 3) := by decide +kernel
theorem d_LW_law_1262 : decode Y_LW_law.2.1 1262 = .ok (.aload_n 1, 1) := by decide +kernel
theorem d_LW_law_1263 : decode Y_LW_law.2.1 1263 = .ok (.aload_n 3, 1) := by decide +kernel
theorem d_LW_law_1264 : decode Y_LW_law.2.1 1264 = .ok (.invokestatic 164, 3) := by decide +kernel
theorem d_LW_law_1267 : decode Y_LW_law.2.1 1267 = .ok (.istore 5, 2) := by decide +kernel
theorem d_LW_law_1269 : decode Y_LW_law.2.1 1269 = .ok (.aload_n 2, 1) := by decide +kernel
theorem d_LW_law_1270 : decode Y_LW_law.2.1 1270 = .ok (.invokevirtual 166, 3) := by decide +kernel
theorem d_LW_law_1273 : decode Y_LW_law.2.1 1273 = .ok (.istore 6, 2) := by decide +kernel
theorem d_LW_law_1275 : decode Y_LW_law.2.1 1275 = .ok (.aload_n 2, 1) := by decide +kernel
theorem d_LW_law_1276 : decode Y_LW_law.2.1 1276 = .ok (.invokevirtual 104, 3) := by decide +kernel
theorem d_LW_law_1279 : decode Y_LW_law.2.1 1279 = .ok (.iload 5, 2) := by decide +kernel
theorem d_LW_law_1281 : decode Y_LW_law.2.1 1281 = .ok (.if_icmp .eq (5), 3) := by decide +kernel
theorem d_LW_law_1284 : decode Y_LW_law.2.1 1284 = .ok (.iconst (0), 1) := by decide +kernel
theorem d_LW_law_1285 : decode Y_LW_law.2.1 1285 = .ok (.ireturn, 1) := by decide +kernel
theorem d_LW_law_1286 : decode Y_LW_law.2.1 1286 = .ok (.iload 5, 2) := by decide +kernel
theorem d_LW_law_1288 : decode Y_LW_law.2.1 1288 = .ok (.ifCond .ne (15), 3) := by decide +kernel
theorem d_LW_law_1291 : decode Y_LW_law.2.1 1291 = .ok (.aload_n 3, 1) := by decide +kernel
theorem d_LW_law_1292 : decode Y_LW_law.2.1 1292 = .ok (.iconst (0), 1) := by decide +kernel
theorem d_LW_law_1293 : decode Y_LW_law.2.1 1293 = .ok (.laload, 1) := by decide +kernel
theorem d_LW_law_1294 : decode Y_LW_law.2.1 1294 = .ok (.iload 6, 2) := by decide +kernel
theorem d_LW_law_1296 : decode Y_LW_law.2.1 1296 = .ok (.i2l, 1) := by decide +kernel
theorem d_LW_law_1297 : decode Y_LW_law.2.1 1297 = .ok (.lcmp, 1) := by decide +kernel
theorem d_LW_law_1298 : decode Y_LW_law.2.1 1298 = .ok (.ifCond .eq (5), 3) := by decide +kernel
theorem d_LW_law_1301 : decode Y_LW_law.2.1 1301 = .ok (.iconst (0), 1) := by decide +kernel
theorem d_LW_law_1302 : decode Y_LW_law.2.1 1302 = .ok (.ireturn, 1) := by decide +kernel
theorem d_LW_law_1303 : decode Y_LW_law.2.1 1303 = .ok (.goto (532), 3) := by decide +kernel
theorem d_LW_law_1306 : decode Y_LW_law.2.1 1306 = .ok (.aload_n 1, 1) := by decide +kernel
theorem d_LW_law_1307 : decode Y_LW_law.2.1 1307 = .ok (.aload_n 0, 1) := by decide +kernel
theorem d_LW_law_1308 : decode Y_LW_law.2.1 1308 = .ok (.iload 4, 2) := by decide +kernel
theorem d_LW_law_1310 : decode Y_LW_law.2.1 1310 = .ok (.iconst (1), 1) := by decide +kernel
theorem d_LW_law_1311 : decode Y_LW_law.2.1 1311 = .ok (.iadd, 1) := by decide +kernel
theorem d_LW_law_1312 : decode Y_LW_law.2.1 1312 = .ok (.iaload, 1) := by decide +kernel
theorem d_LW_law_1313 : decode Y_LW_law.2.1 1313 = .ok (.aload_n 0, 1) := by decide +kernel
theorem d_LW_law_1314 : decode Y_LW_law.2.1 1314 = .ok (.iload 4, 2) := by decide +kernel
theorem d_LW_law_1316 : decode Y_LW_law.2.1 1316 = .ok (.iconst (2), 1) := by decide +kernel
theorem d_LW_law_1317 : decode Y_LW_law.2.1 1317 = .ok (.iadd, 1) := by decide +kernel
theorem d_LW_law_1318 : decode Y_LW_law.2.1 1318 = .ok (.iaload, 1) := by decide +kernel
theorem d_LW_law_1319 : decode Y_LW_law.2.1 1319 = .ok (.aload_n 0, 1) := by decide +kernel
theorem d_LW_law_1320 : decode Y_LW_law.2.1 1320 = .ok (.iload 4, 2) := by decide +kernel
theorem d_LW_law_1322 : decode Y_LW_law.2.1 1322 = .ok (.iconst (3), 1) := by decide +kernel
theorem d_LW_law_1323 : decode Y_LW_law.2.1 1323 = .ok (.iadd, 1) := by decide +kernel
theorem d_LW_law_1324 : decode Y_LW_law.2.1 1324 = .ok (.iaload, 1) := by decide +kernel
theorem d_LW_law_1325 : decode Y_LW_law.2.1 1325 = .ok (.aload_n 3, 1) := by decide +kernel
theorem d_LW_law_1326 : decode Y_LW_law.2.1 1326 = .ok (.invokestatic 167, 3) := by decide +kernel
theorem d_LW_law_1329 : decode Y_LW_law.2.1 1329 = .ok (.istore 5, 2) := by decide +kernel
theorem d_LW_law_1331 : decode Y_LW_law.2.1 1331 = .ok (.aload_n 2, 1) := by decide +kernel
theorem d_LW_law_1332 : decode Y_LW_law.2.1 1332 = .ok (.aload_n 0, 1) := by decide +kernel
theorem d_LW_law_1333 : decode Y_LW_law.2.1 1333 = .ok (.iload 4, 2) := by decide +kernel
theorem d_LW_law_1335 : decode Y_LW_law.2.1 1335 = .ok (.iconst (1), 1) := by decide +kernel
theorem d_LW_law_1336 : decode Y_LW_law.2.1 1336 = .ok (.iadd, 1) := by decide +kernel
theorem d_LW_law_1337 : decode Y_LW_law.2.1 1337 = .ok (.iaload, 1) := by decide +kernel
theorem d_LW_law_1338 : decode Y_LW_law.2.1 1338 = .ok (.aload_n 0, 1) := by decide +kernel
theorem d_LW_law_1339 : decode Y_LW_law.2.1 1339 = .ok (.iload 4, 2) := by decide +kernel
theorem d_LW_law_1341 : decode Y_LW_law.2.1 1341 = .ok (.iconst (2), 1) := by decide +kernel
theorem d_LW_law_1342 : decode Y_LW_law.2.1 1342 = .ok (.iadd, 1) := by decide +kernel
theorem d_LW_law_1343 : decode Y_LW_law.2.1 1343 = .ok (.iaload, 1) := by decide +kernel
theorem d_LW_law_1344 : decode Y_LW_law.2.1 1344 = .ok (.aload_n 0, 1) := by decide +kernel
theorem d_LW_law_1345 : decode Y_LW_law.2.1 1345 = .ok (.iload 4, 2) := by decide +kernel
theorem d_LW_law_1347 : decode Y_LW_law.2.1 1347 = .ok (.iconst (3), 1) := by decide +kernel
theorem d_LW_law_1348 : decode Y_LW_law.2.1 1348 = .ok (.iadd, 1) := by decide +kernel
theorem d_LW_law_1349 : decode Y_LW_law.2.1 1349 = .ok (.iaload, 1) := by decide +kernel
theorem d_LW_law_1350 : decode Y_LW_law.2.1 1350 = .ok (.invokevirtual 169, 3) := by decide +kernel
theorem d_LW_law_1353 : decode Y_LW_law.2.1 1353 = .ok (.istore 6, 2) := by decide +kernel
theorem d_LW_law_1355 : decode Y_LW_law.2.1 1355 = .ok (.aload_n 2, 1) := by decide +kernel
theorem d_LW_law_1356 : decode Y_LW_law.2.1 1356 = .ok (.invokevirtual 104, 3) := by decide +kernel
theorem d_LW_law_1359 : decode Y_LW_law.2.1 1359 = .ok (.iload 5, 2) := by decide +kernel
theorem d_LW_law_1361 : decode Y_LW_law.2.1 1361 = .ok (.if_icmp .eq (5), 3) := by decide +kernel
theorem d_LW_law_1364 : decode Y_LW_law.2.1 1364 = .ok (.iconst (0), 1) := by decide +kernel
theorem d_LW_law_1365 : decode Y_LW_law.2.1 1365 = .ok (.ireturn, 1) := by decide +kernel
theorem d_LW_law_1366 : decode Y_LW_law.2.1 1366 = .ok (.iload 5, 2) := by decide +kernel
theorem d_LW_law_1368 : decode Y_LW_law.2.1 1368 = .ok (.ifCond .ne (15), 3) := by decide +kernel
theorem d_LW_law_1371 : decode Y_LW_law.2.1 1371 = .ok (.aload_n 3, 1) := by decide +kernel
theorem d_LW_law_1372 : decode Y_LW_law.2.1 1372 = .ok (.iconst (0), 1) := by decide +kernel
theorem d_LW_law_1373 : decode Y_LW_law.2.1 1373 = .ok (.laload, 1) := by decide +kernel
theorem d_LW_law_1374 : decode Y_LW_law.2.1 1374 = .ok (.iload 6, 2) := by decide +kernel
theorem d_LW_law_1376 : decode Y_LW_law.2.1 1376 = .ok (.i2l, 1) := by decide +kernel
theorem d_LW_law_1377 : decode Y_LW_law.2.1 1377 = .ok (.lcmp, 1) := by decide +kernel
theorem d_LW_law_1378 : decode Y_LW_law.2.1 1378 = .ok (.ifCond .eq (5), 3) := by decide +kernel
theorem d_LW_law_1381 : decode Y_LW_law.2.1 1381 = .ok (.iconst (0), 1) := by decide +kernel
theorem d_LW_law_1382 : decode Y_LW_law.2.1 1382 = .ok (.ireturn, 1) := by decide +kernel
theorem d_LW_law_1383 : decode Y_LW_law.2.1 1383 = .ok (.goto (452), 3) := by decide +kernel
theorem d_LW_law_1386 : decode Y_LW_law.2.1 1386 = .ok (.aload_n 1, 1) := by decide +kernel
theorem d_LW_law_1387 : decode Y_LW_law.2.1 1387 = .ok (.aload_n 0, 1) := by decide +kernel
theorem d_LW_law_1388 : decode Y_LW_law.2.1 1388 = .ok (.iload 4, 2) := by decide +kernel
theorem d_LW_law_1390 : decode Y_LW_law.2.1 1390 = .ok (.iconst (1), 1) := by decide +kernel
theorem d_LW_law_1391 : decode Y_LW_law.2.1 1391 = .ok (.iadd, 1) := by decide +kernel
theorem d_LW_law_1392 : decode Y_LW_law.2.1 1392 = .ok (.iaload, 1) := by decide +kernel
theorem d_LW_law_1393 : decode Y_LW_law.2.1 1393 = .ok (.aload_n 0, 1) := by decide +kernel
theorem d_LW_law_1394 : decode Y_LW_law.2.1 1394 = .ok (.iload 4, 2) := by decide +kernel
theorem d_LW_law_1396 : decode Y_LW_law.2.1 1396 = .ok (.iconst (2), 1) := by decide +kernel
theorem d_LW_law_1397 : decode Y_LW_law.2.1 1397 = .ok (.iadd, 1) := by decide +kernel
theorem d_LW_law_1398 : decode Y_LW_law.2.1 1398 = .ok (.iaload, 1) := by decide +kernel
theorem d_LW_law_1399 : decode Y_LW_law.2.1 1399 = .ok (.aload_n 3, 1) := by decide +kernel
theorem d_LW_law_1400 : decode Y_LW_law.2.1 1400 = .ok (.invokestatic 170, 3) := by decide +kernel
theorem d_LW_law_1403 : decode Y_LW_law.2.1 1403 = .ok (.istore 5, 2) := by decide +kernel
theorem d_LW_law_1405 : decode Y_LW_law.2.1 1405 = .ok (.aload_n 2, 1) := by decide +kernel
theorem d_LW_law_1406 : decode Y_LW_law.2.1 1406 = .ok (.aload_n 0, 1) := by decide +kernel
theorem d_LW_law_1407 : decode Y_LW_law.2.1 1407 = .ok (.iload 4, 2) := by decide +kernel
theorem d_LW_law_1409 : decode Y_LW_law.2.1 1409 = .ok (.iconst (1), 1) := by decide +kernel
theorem d_LW_law_1410 : decode Y_LW_law.2.1 1410 = .ok (.iadd, 1) := by decide +kernel
theorem d_LW_law_1411 : decode Y_LW_law.2.1 1411 = .ok (.iaload, 1) := by decide +kernel
theorem d_LW_law_1412 : decode Y_LW_law.2.1 1412 = .ok (.aload_n 0, 1) := by decide +kernel
theorem d_LW_law_1413 : decode Y_LW_law.2.1 1413 = .ok (.iload 4, 2) := by decide +kernel
theorem d_LW_law_1415 : decode Y_LW_law.2.1 1415 = .ok (.iconst (2), 1) := by decide +kernel
theorem d_LW_law_1416 : decode Y_LW_law.2.1 1416 = .ok (.iadd, 1) := by decide +kernel
theorem d_LW_law_1417 : decode Y_LW_law.2.1 1417 = .ok (.iaload, 1) := by decide +kernel
theorem d_LW_law_1418 : decode Y_LW_law.2.1 1418 = .ok (.invokevirtual 172, 3) := by decide +kernel
theorem d_LW_law_1421 : decode Y_LW_law.2.1 1421 = .ok (.istore 6, 2) := by decide +kernel
theorem d_LW_law_1423 : decode Y_LW_law.2.1 1423 = .ok (.aload_n 2, 1) := by decide +kernel
theorem d_LW_law_1424 : decode Y_LW_law.2.1 1424 = .ok (.invokevirtual 104, 3) := by decide +kernel
theorem d_LW_law_1427 : decode Y_LW_law.2.1 1427 = .ok (.iload 5, 2) := by decide +kernel
theorem d_LW_law_1429 : decode Y_LW_law.2.1 1429 = .ok (.if_icmp .eq (5), 3) := by decide +kernel
theorem d_LW_law_1432 : decode Y_LW_law.2.1 1432 = .ok (.iconst (0), 1) := by decide +kernel
theorem d_LW_law_1433 : decode Y_LW_law.2.1 1433 = .ok (.ireturn, 1) := by decide +kernel
theorem d_LW_law_1434 : decode Y_LW_law.2.1 1434 = .ok (.iload 5, 2) := by decide +kernel
theorem d_LW_law_1436 : decode Y_LW_law.2.1 1436 = .ok (.ifCond .ne (15), 3) := by decide +kernel
theorem d_LW_law_1439 : decode Y_LW_law.2.1 1439 = .ok (.aload_n 3, 1) := by decide +kernel
theorem d_LW_law_1440 : decode Y_LW_law.2.1 1440 = .ok (.iconst (0), 1) := by decide +kernel
theorem d_LW_law_1441 : decode Y_LW_law.2.1 1441 = .ok (.laload, 1) := by decide +kernel
theorem d_LW_law_1442 : decode Y_LW_law.2.1 1442 = .ok (.iload 6, 2) := by decide +kernel
theorem d_LW_law_1444 : decode Y_LW_law.2.1 1444 = .ok (.i2l, 1) := by decide +kernel
theorem d_LW_law_1445 : decode Y_LW_law.2.1 1445 = .ok (.lcmp, 1) := by decide +kernel
theorem d_LW_law_1446 : decode Y_LW_law.2.1 1446 = .ok (.ifCond .eq (5), 3) := by decide +kernel
theorem d_LW_law_1449 : decode Y_LW_law.2.1 1449 = .ok (.iconst (0), 1) := by decide +kernel
theorem d_LW_law_1450 : decode Y_LW_law.2.1 1450 = .ok (.ireturn, 1) := by decide +kernel
theorem d_LW_law_1451 : decode Y_LW_law.2.1 1451 = .ok (.goto (384), 3) := by decide +kernel
theorem d_LW_law_1454 : decode Y_LW_law.2.1 1454 = .ok (.aload_n 1, 1) := by decide +kernel
theorem d_LW_law_1455 : decode Y_LW_law.2.1 1455 = .ok (.invokevirtual 173, 3) := by decide +kernel
theorem d_LW_law_1458 : decode Y_LW_law.2.1 1458 = .ok (.aload_n 2, 1) := by decide +kernel
theorem d_LW_law_1459 : decode Y_LW_law.2.1 1459 = .ok (.invokevirtual 176, 3) := by decide +kernel
theorem d_LW_law_1462 : decode Y_LW_law.2.1 1462 = .ok (.if_icmp .eq (373), 3) := by decide +kernel
theorem d_LW_law_1465 : decode Y_LW_law.2.1 1465 = .ok (.iconst (0), 1) := by decide +kernel
theorem d_LW_law_1466 : decode Y_LW_law.2.1 1466 = .ok (.ireturn, 1) := by decide +kernel
theorem d_LW_law_1467 : decode Y_LW_law.2.1 1467 = .ok (.aload_n 1, 1) := by decide +kernel
theorem d_LW_law_1468 : decode Y_LW_law.2.1 1468 = .ok (.aload_n 0, 1) := by decide +kernel
theorem d_LW_law_1469 : decode Y_LW_law.2.1 1469 = .ok (.iload 4, 2) := by decide +kernel
theorem d_LW_law_1471 : decode Y_LW_law.2.1 1471 = .ok (.iconst (1), 1) := by decide +kernel
theorem d_LW_law_1472 : decode Y_LW_law.2.1 1472 = .ok (.iadd, 1) := by decide +kernel
theorem d_LW_law_1473 : decode Y_LW_law.2.1 1473 = .ok (.iaload, 1) := by decide +kernel
theorem d_LW_law_1474 : decode Y_LW_law.2.1 1474 = .ok (.aload_n 3, 1) := by decide +kernel
theorem d_LW_law_1475 : decode Y_LW_law.2.1 1475 = .ok (.invokestatic 177, 3) := by decide +kernel
theorem d_LW_law_1478 : decode Y_LW_law.2.1 1478 = .ok (.istore 5, 2) := by decide +kernel
theorem d_LW_law_1480 : decode Y_LW_law.2.1 1480 = .ok (.aload_n 2, 1) := by decide +kernel
theorem d_LW_law_1481 : decode Y_LW_law.2.1 1481 = .ok (.aload_n 0, 1) := by decide +kernel
theorem d_LW_law_1482 : decode Y_LW_law.2.1 1482 = .ok (.iload 4, 2) := by decide +kernel
theorem d_LW_law_1484 : decode Y_LW_law.2.1 1484 = .ok (.iconst (1), 1) := by decide +kernel
theorem d_LW_law_1485 : decode Y_LW_law.2.1 1485 = .ok (.iadd, 1) := by decide +kernel
theorem d_LW_law_1486 : decode Y_LW_law.2.1 1486 = .ok (.iaload, 1) := by decide +kernel
theorem d_LW_law_1487 : decode Y_LW_law.2.1 1487 = .ok (.invokevirtual 179, 3) := by decide +kernel
theorem d_LW_law_1490 : decode Y_LW_law.2.1 1490 = .ok (.istore 6, 2) := by decide +kernel
theorem d_LW_law_1492 : decode Y_LW_law.2.1 1492 = .ok (.aload_n 2, 1) := by decide +kernel
theorem d_LW_law_1493 : decode Y_LW_law.2.1 1493 = .ok (.invokevirtual 104, 3) := by decide +kernel
theorem d_LW_law_1496 : decode Y_LW_law.2.1 1496 = .ok (.iload 5, 2) := by decide +kernel
theorem d_LW_law_1498 : decode Y_LW_law.2.1 1498 = .ok (.if_icmp .eq (5), 3) := by decide +kernel
theorem d_LW_law_1501 : decode Y_LW_law.2.1 1501 = .ok (.iconst (0), 1) := by decide +kernel
theorem d_LW_law_1502 : decode Y_LW_law.2.1 1502 = .ok (.ireturn, 1) := by decide +kernel
theorem d_LW_law_1503 : decode Y_LW_law.2.1 1503 = .ok (.iload 5, 2) := by decide +kernel
theorem d_LW_law_1505 : decode Y_LW_law.2.1 1505 = .ok (.ifCond .ne (15), 3) := by decide +kernel
theorem d_LW_law_1508 : decode Y_LW_law.2.1 1508 = .ok (.aload_n 3, 1) := by decide +kernel
theorem d_LW_law_1509 : decode Y_LW_law.2.1 1509 = .ok (.iconst (0), 1) := by decide +kernel
theorem d_LW_law_1510 : decode Y_LW_law.2.1 1510 = .ok (.laload, 1) := by decide +kernel
theorem d_LW_law_1511 : decode Y_LW_law.2.1 1511 = .ok (.iload 6, 2) := by decide +kernel
theorem d_LW_law_1513 : decode Y_LW_law.2.1 1513 = .ok (.i2l, 1) := by decide +kernel
theorem d_LW_law_1514 : decode Y_LW_law.2.1 1514 = .ok (.lcmp, 1) := by decide +kernel
theorem d_LW_law_1515 : decode Y_LW_law.2.1 1515 = .ok (.ifCond .eq (5), 3) := by decide +kernel
theorem d_LW_law_1518 : decode Y_LW_law.2.1 1518 = .ok (.iconst (0), 1) := by decide +kernel
theorem d_LW_law_1519 : decode Y_LW_law.2.1 1519 = .ok (.ireturn, 1) := by decide +kernel
theorem d_LW_law_1520 : decode Y_LW_law.2.1 1520 = .ok (.goto (315), 3) := by decide +kernel
theorem d_LW_law_1523 : decode Y_LW_law.2.1 1523 = .ok (.aload_n 1, 1) := by decide +kernel
theorem d_LW_law_1524 : decode Y_LW_law.2.1 1524 = .ok (.aload_n 0, 1) := by decide +kernel
theorem d_LW_law_1525 : decode Y_LW_law.2.1 1525 = .ok (.iload 4, 2) := by decide +kernel
theorem d_LW_law_1527 : decode Y_LW_law.2.1 1527 = .ok (.iconst (1), 1) := by decide +kernel
theorem d_LW_law_1528 : decode Y_LW_law.2.1 1528 = .ok (.iadd, 1) := by decide +kernel
theorem d_LW_law_1529 : decode Y_LW_law.2.1 1529 = .ok (.iaload, 1) := by decide +kernel
theorem d_LW_law_1530 : decode Y_LW_law.2.1 1530 = .ok (.aload_n 0, 1) := by decide +kernel
theorem d_LW_law_1531 : decode Y_LW_law.2.1 1531 = .ok (.iload 4, 2) := by decide +kernel
theorem d_LW_law_1533 : decode Y_LW_law.2.1 1533 = .ok (.iconst (2), 1) := by decide +kernel
theorem d_LW_law_1534 : decode Y_LW_law.2.1 1534 = .ok (.iadd, 1) := by decide +kernel
theorem d_LW_law_1535 : decode Y_LW_law.2.1 1535 = .ok (.iaload, 1) := by decide +kernel
theorem d_LW_law_1536 : decode Y_LW_law.2.1 1536 = .ok (.i2l, 1) := by decide +kernel
theorem d_LW_law_1537 : decode Y_LW_law.2.1 1537 = .ok (.bipush (32), 2) := by decide +kernel
theorem d_LW_law_1539 : decode Y_LW_law.2.1 1539 = .ok (.lshl, 1) := by decide +kernel
theorem d_LW_law_1540 : decode Y_LW_law.2.1 1540 = .ok (.aload_n 0, 1) := by decide +kernel
theorem d_LW_law_1541 : decode Y_LW_law.2.1 1541 = .ok (.iload 4, 2) := by decide +kernel
theorem d_LW_law_1543 : decode Y_LW_law.2.1 1543 = .ok (.iconst (3), 1) := by decide +kernel
theorem d_LW_law_1544 : decode Y_LW_law.2.1 1544 = .ok (.iadd, 1) := by decide +kernel
theorem d_LW_law_1545 : decode Y_LW_law.2.1 1545 = .ok (.iaload, 1) := by decide +kernel
theorem d_LW_law_1546 : decode Y_LW_law.2.1 1546 = .ok (.i2l, 1) := by decide +kernel
theorem d_LW_law_1547 : decode Y_LW_law.2.1 1547 = .ok (.ldc2_w 180, 3) := by decide +kernel
theorem d_LW_law_1550 : decode Y_LW_law.2.1 1550 = .ok (.land, 1) := by decide +kernel
theorem d_LW_law_1551 : decode Y_LW_law.2.1 1551 = .ok (.lor, 1) := by decide +kernel
theorem d_LW_law_1552 : decode Y_LW_law.2.1 1552 = .ok (.aload_n 3, 1) := by decide +kernel
theorem d_LW_law_1553 : decode Y_LW_law.2.1 1553 = .ok (.invokestatic 182, 3) := by decide +kernel
theorem d_LW_law_1556 : decode Y_LW_law.2.1 1556 = .ok (.istore 5, 2) := by decide +kernel
theorem d_LW_law_1558 : decode Y_LW_law.2.1 1558 = .ok (.aload_n 2, 1) := by decide +kernel
theorem d_LW_law_1559 : decode Y_LW_law.2.1 1559 = .ok (.aload_n 0, 1) := by decide +kernel
theorem d_LW_law_1560 : decode Y_LW_law.2.1 1560 = .ok (.iload 4, 2) := by decide +kernel
theorem d_LW_law_1562 : decode Y_LW_law.2.1 1562 = .ok (.iconst (1), 1) := by decide +kernel
theorem d_LW_law_1563 : decode Y_LW_law.2.1 1563 = .ok (.iadd, 1) := by decide +kernel
theorem d_LW_law_1564 : decode Y_LW_law.2.1 1564 = .ok (.iaload, 1) := by decide +kernel
theorem d_LW_law_1565 : decode Y_LW_law.2.1 1565 = .ok (.aload_n 0, 1) := by decide +kernel
theorem d_LW_law_1566 : decode Y_LW_law.2.1 1566 = .ok (.iload 4, 2) := by decide +kernel
theorem d_LW_law_1568 : decode Y_LW_law.2.1 1568 = .ok (.iconst (2), 1) := by decide +kernel
theorem d_LW_law_1569 : decode Y_LW_law.2.1 1569 = .ok (.iadd, 1) := by decide +kernel
theorem d_LW_law_1570 : decode Y_LW_law.2.1 1570 = .ok (.iaload, 1) := by decide +kernel
theorem d_LW_law_1571 : decode Y_LW_law.2.1 1571 = .ok (.i2l, 1) := by decide +kernel
theorem d_LW_law_1572 : decode Y_LW_law.2.1 1572 = .ok (.bipush (32), 2) := by decide +kernel
theorem d_LW_law_1574 : decode Y_LW_law.2.1 1574 = .ok (.lshl, 1) := by decide +kernel
theorem d_LW_law_1575 : decode Y_LW_law.2.1 1575 = .ok (.aload_n 0, 1) := by decide +kernel
theorem d_LW_law_1576 : decode Y_LW_law.2.1 1576 = .ok (.iload 4, 2) := by decide +kernel
theorem d_LW_law_1578 : decode Y_LW_law.2.1 1578 = .ok (.iconst (3), 1) := by decide +kernel
theorem d_LW_law_1579 : decode Y_LW_law.2.1 1579 = .ok (.iadd, 1) := by decide +kernel
theorem d_LW_law_1580 : decode Y_LW_law.2.1 1580 = .ok (.iaload, 1) := by decide +kernel
theorem d_LW_law_1581 : decode Y_LW_law.2.1 1581 = .ok (.i2l, 1) := by decide +kernel
theorem d_LW_law_1582 : decode Y_LW_law.2.1 1582 = .ok (.ldc2_w 180, 3) := by decide +kernel
theorem d_LW_law_1585 : decode Y_LW_law.2.1 1585 = .ok (.land, 1) := by decide +kernel
theorem d_LW_law_1586 : decode Y_LW_law.2.1 1586 = .ok (.lor, 1) := by decide +kernel
theorem d_LW_law_1587 : decode Y_LW_law.2.1 1587 = .ok (.invokevirtual 185, 3) := by decide +kernel
theorem d_LW_law_1590 : decode Y_LW_law.2.1 1590 = .ok (.istore 6, 2) := by decide +kernel
theorem d_LW_law_1592 : decode Y_LW_law.2.1 1592 = .ok (.aload_n 2, 1) := by decide +kernel
theorem d_LW_law_1593 : decode Y_LW_law.2.1 1593 = .ok (.invokevirtual 104, 3) := by decide +kernel
theorem d_LW_law_1596 : decode Y_LW_law.2.1 1596 = .ok (.iload 5, 2) := by decide +kernel
theorem d_LW_law_1598 : decode Y_LW_law.2.1 1598 = .ok (.if_icmp .eq (5), 3) := by decide +kernel
theorem d_LW_law_1601 : decode Y_LW_law.2.1 1601 = .ok (.iconst (0), 1) := by decide +kernel
theorem d_LW_law_1602 : decode Y_LW_law.2.1 1602 = .ok (.ireturn, 1) := by decide +kernel
theorem d_LW_law_1603 : decode Y_LW_law.2.1 1603 = .ok (.iload 5, 2) := by decide +kernel
theorem d_LW_law_1605 : decode Y_LW_law.2.1 1605 = .ok (.ifCond .ne (15), 3) := by decide +kernel
theorem d_LW_law_1608 : decode Y_LW_law.2.1 1608 = .ok (.aload_n 3, 1) := by decide +kernel
theorem d_LW_law_1609 : decode Y_LW_law.2.1 1609 = .ok (.iconst (0), 1) := by decide +kernel
theorem d_LW_law_1610 : decode Y_LW_law.2.1 1610 = .ok (.laload, 1) := by decide +kernel
theorem d_LW_law_1611 : decode Y_LW_law.2.1 1611 = .ok (.iload 6, 2) := by decide +kernel
theorem d_LW_law_1613 : decode Y_LW_law.2.1 1613 = .ok (.i2l, 1) := by decide +kernel
theorem d_LW_law_1614 : decode Y_LW_law.2.1 1614 = .ok (.lcmp, 1) := by decide +kernel
theorem d_LW_law_1615 : decode Y_LW_law.2.1 1615 = .ok (.ifCond .eq (5), 3) := by decide +kernel
theorem d_LW_law_1618 : decode Y_LW_law.2.1 1618 = .ok (.iconst (0), 1) := by decide +kernel
theorem d_LW_law_1619 : decode Y_LW_law.2.1 1619 = .ok (.ireturn, 1) := by decide +kernel
theorem d_LW_law_1620 : decode Y_LW_law.2.1 1620 = .ok (.goto (215), 3) := by decide +kernel
theorem d_LW_law_1623 : decode Y_LW_law.2.1 1623 = .ok (.aload_n 1, 1) := by decide +kernel
theorem d_LW_law_1624 : decode Y_LW_law.2.1 1624 = .ok (.aload_n 0, 1) := by decide +kernel
theorem d_LW_law_1625 : decode Y_LW_law.2.1 1625 = .ok (.iload 4, 2) := by decide +kernel
theorem d_LW_law_1627 : decode Y_LW_law.2.1 1627 = .ok (.iconst (1), 1) := by decide +kernel
theorem d_LW_law_1628 : decode Y_LW_law.2.1 1628 = .ok (.iadd, 1) := by decide +kernel
theorem d_LW_law_1629 : decode Y_LW_law.2.1 1629 = .ok (.iaload, 1) := by decide +kernel
theorem d_LW_law_1630 : decode Y_LW_law.2.1 1630 = .ok (.i2l, 1) := by decide +kernel
theorem d_LW_law_1631 : decode Y_LW_law.2.1 1631 = .ok (.bipush (32), 2) := by decide +kernel
theorem d_LW_law_1633 : decode Y_LW_law.2.1 1633 = .ok (.lshl, 1) := by decide +kernel
theorem d_LW_law_1634 : decode Y_LW_law.2.1 1634 = .ok (.aload_n 0, 1) := by decide +kernel
theorem d_LW_law_1635 : decode Y_LW_law.2.1 1635 = .ok (.iload 4, 2) := by decide +kernel
theorem d_LW_law_1637 : decode Y_LW_law.2.1 1637 = .ok (.iconst (2), 1) := by decide +kernel
theorem d_LW_law_1638 : decode Y_LW_law.2.1 1638 = .ok (.iadd, 1) := by decide +kernel
theorem d_LW_law_1639 : decode Y_LW_law.2.1 1639 = .ok (.iaload, 1) := by decide +kernel
theorem d_LW_law_1640 : decode Y_LW_law.2.1 1640 = .ok (.i2l, 1) := by decide +kernel
theorem d_LW_law_1641 : decode Y_LW_law.2.1 1641 = .ok (.ldc2_w 180, 3) := by decide +kernel
theorem d_LW_law_1644 : decode Y_LW_law.2.1 1644 = .ok (.land, 1) := by decide +kernel
theorem d_LW_law_1645 : decode Y_LW_law.2.1 1645 = .ok (.lor, 1) := by decide +kernel
theorem d_LW_law_1646 : decode Y_LW_law.2.1 1646 = .ok (.aload_n 0, 1) := by decide +kernel
theorem d_LW_law_1647 : decode Y_LW_law.2.1 1647 = .ok (.iload 4, 2) := by decide +kernel
theorem d_LW_law_1649 : decode Y_LW_law.2.1 1649 = .ok (.iconst (3), 1) := by decide +kernel
theorem d_LW_law_1650 : decode Y_LW_law.2.1 1650 = .ok (.iadd, 1) := by decide +kernel
theorem d_LW_law_1651 : decode Y_LW_law.2.1 1651 = .ok (.iaload, 1) := by decide +kernel
theorem d_LW_law_1652 : decode Y_LW_law.2.1 1652 = .ok (.aload_n 3, 1) := by decide +kernel
theorem d_LW_law_1653 : decode Y_LW_law.2.1 1653 = .ok (.invokestatic 186, 3) := by decide +kernel
theorem d_LW_law_1656 : decode Y_LW_law.2.1 1656 = .ok (.istore 5, 2) := by decide +kernel
theorem d_LW_law_1658 : decode Y_LW_law.2.1 1658 = .ok (.aload_n 2, 1) := by decide +kernel
theorem d_LW_law_1659 : decode Y_LW_law.2.1 1659 = .ok (.aload_n 0, 1) := by decide +kernel
theorem d_LW_law_1660 : decode Y_LW_law.2.1 1660 = .ok (.iload 4, 2) := by decide +kernel
theorem d_LW_law_1662 : decode Y_LW_law.2.1 1662 = .ok (.iconst (1), 1) := by decide +kernel
theorem d_LW_law_1663 : decode Y_LW_law.2.1 1663 = .ok (.iadd, 1) := by decide +kernel
theorem d_LW_law_1664 : decode Y_LW_law.2.1 1664 = .ok (.iaload, 1) := by decide +kernel
theorem d_LW_law_1665 : decode Y_LW_law.2.1 1665 = .ok (.i2l, 1) := by decide +kernel
theorem d_LW_law_1666 : decode Y_LW_law.2.1 1666 = .ok (.bipush (32), 2) := by decide +kernel
theorem d_LW_law_1668 : decode Y_LW_law.2.1 1668 = .ok (.lshl, 1) := by decide +kernel
theorem d_LW_law_1669 : decode Y_LW_law.2.1 1669 = .ok (.aload_n 0, 1) := by decide +kernel
theorem d_LW_law_1670 : decode Y_LW_law.2.1 1670 = .ok (.iload 4, 2) := by decide +kernel
theorem d_LW_law_1672 : decode Y_LW_law.2.1 1672 = .ok (.iconst (2), 1) := by decide +kernel
theorem d_LW_law_1673 : decode Y_LW_law.2.1 1673 = .ok (.iadd, 1) := by decide +kernel
theorem d_LW_law_1674 : decode Y_LW_law.2.1 1674 = .ok (.iaload, 1) := by decide +kernel
theorem d_LW_law_1675 : decode Y_LW_law.2.1 1675 = .ok (.i2l, 1) := by decide +kernel
theorem d_LW_law_1676 : decode Y_LW_law.2.1 1676 = .ok (.ldc2_w 180, 3) := by decide +kernel
theorem d_LW_law_1679 : decode Y_LW_law.2.1 1679 = .ok (.land, 1) := by decide +kernel
theorem d_LW_law_1680 : decode Y_LW_law.2.1 1680 = .ok (.lor, 1) := by decide +kernel
theorem d_LW_law_1681 : decode Y_LW_law.2.1 1681 = .ok (.aload_n 0, 1) := by decide +kernel
theorem d_LW_law_1682 : decode Y_LW_law.2.1 1682 = .ok (.iload 4, 2) := by decide +kernel
theorem d_LW_law_1684 : decode Y_LW_law.2.1 1684 = .ok (.iconst (3), 1) := by decide +kernel
theorem d_LW_law_1685 : decode Y_LW_law.2.1 1685 = .ok (.iadd, 1) := by decide +kernel
theorem d_LW_law_1686 : decode Y_LW_law.2.1 1686 = .ok (.iaload, 1) := by decide +kernel
theorem d_LW_law_1687 : decode Y_LW_law.2.1 1687 = .ok (.invokevirtual 189, 3) := by decide +kernel
theorem d_LW_law_1690 : decode Y_LW_law.2.1 1690 = .ok (.istore 6, 2) := by decide +kernel
theorem d_LW_law_1692 : decode Y_LW_law.2.1 1692 = .ok (.aload_n 2, 1) := by decide +kernel
theorem d_LW_law_1693 : decode Y_LW_law.2.1 1693 = .ok (.invokevirtual 104, 3) := by decide +kernel
theorem d_LW_law_1696 : decode Y_LW_law.2.1 1696 = .ok (.iload 5, 2) := by decide +kernel
theorem d_LW_law_1698 : decode Y_LW_law.2.1 1698 = .ok (.if_icmp .eq (5), 3) := by decide +kernel
theorem d_LW_law_1701 : decode Y_LW_law.2.1 1701 = .ok (.iconst (0), 1) := by decide +kernel
theorem d_LW_law_1702 : decode Y_LW_law.2.1 1702 = .ok (.ireturn, 1) := by decide +kernel
theorem d_LW_law_1703 : decode Y_LW_law.2.1 1703 = .ok (.iload 5, 2) := by decide +kernel
theorem d_LW_law_1705 : decode Y_LW_law.2.1 1705 = .ok (.ifCond .ne (15), 3) := by decide +kernel
theorem d_LW_law_1708 : decode Y_LW_law.2.1 1708 = .ok (.aload_n 3, 1) := by decide +kernel
theorem d_LW_law_1709 : decode Y_LW_law.2.1 1709 = .ok (.iconst (0), 1) := by decide +kernel
theorem d_LW_law_1710 : decode Y_LW_law.2.1 1710 = .ok (.laload, 1) := by decide +kernel
theorem d_LW_law_1711 : decode Y_LW_law.2.1 1711 = .ok (.iload 6, 2) := by decide +kernel
theorem d_LW_law_1713 : decode Y_LW_law.2.1 1713 = .ok (.i2l, 1) := by decide +kernel
theorem d_LW_law_1714 : decode Y_LW_law.2.1 1714 = .ok (.lcmp, 1) := by decide +kernel
theorem d_LW_law_1715 : decode Y_LW_law.2.1 1715 = .ok (.ifCond .eq (5), 3) := by decide +kernel
theorem d_LW_law_1718 : decode Y_LW_law.2.1 1718 = .ok (.iconst (0), 1) := by decide +kernel
theorem d_LW_law_1719 : decode Y_LW_law.2.1 1719 = .ok (.ireturn, 1) := by decide +kernel
theorem d_LW_law_1720 : decode Y_LW_law.2.1 1720 = .ok (.goto (115), 3) := by decide +kernel
theorem d_LW_law_1723 : decode Y_LW_law.2.1 1723 = .ok (.aload_n 1, 1) := by decide +kernel
theorem d_LW_law_1724 : decode Y_LW_law.2.1 1724 = .ok (.aload_n 0, 1) := by decide +kernel
theorem d_LW_law_1725 : decode Y_LW_law.2.1 1725 = .ok (.iload 4, 2) := by decide +kernel
theorem d_LW_law_1727 : decode Y_LW_law.2.1 1727 = .ok (.iconst (1), 1) := by decide +kernel
theorem d_LW_law_1728 : decode Y_LW_law.2.1 1728 = .ok (.iadd, 1) := by decide +kernel
theorem d_LW_law_1729 : decode Y_LW_law.2.1 1729 = .ok (.iaload, 1) := by decide +kernel
theorem d_LW_law_1730 : decode Y_LW_law.2.1 1730 = .ok (.aload_n 3, 1) := by decide +kernel
theorem d_LW_law_1731 : decode Y_LW_law.2.1 1731 = .ok (.invokestatic 190, 3) := by decide +kernel
theorem d_LW_law_1734 : decode Y_LW_law.2.1 1734 = .ok (.istore 5, 2) := by decide +kernel
theorem d_LW_law_1736 : decode Y_LW_law.2.1 1736 = .ok (.aload_n 2, 1) := by decide +kernel
theorem d_LW_law_1737 : decode Y_LW_law.2.1 1737 = .ok (.aload_n 0, 1) := by decide +kernel
theorem d_LW_law_1738 : decode Y_LW_law.2.1 1738 = .ok (.iload 4, 2) := by decide +kernel
theorem d_LW_law_1740 : decode Y_LW_law.2.1 1740 = .ok (.iconst (1), 1) := by decide +kernel
theorem d_LW_law_1741 : decode Y_LW_law.2.1 1741 = .ok (.iadd, 1) := by decide +kernel
theorem d_LW_law_1742 : decode Y_LW_law.2.1 1742 = .ok (.iaload, 1) := by decide +kernel
theorem d_LW_law_1743 : decode Y_LW_law.2.1 1743 = .ok (.invokevirtual 192, 3) := by decide +kernel
theorem d_LW_law_1746 : decode Y_LW_law.2.1 1746 = .ok (.istore 6, 2) := by decide +kernel
theorem d_LW_law_1748 : decode Y_LW_law.2.1 1748 = .ok (.aload_n 2, 1) := by decide +kernel
theorem d_LW_law_1749 : decode Y_LW_law.2.1 1749 = .ok (.invokevirtual 104, 3) := by decide +kernel
theorem d_LW_law_1752 : decode Y_LW_law.2.1 1752 = .ok (.iload 5, 2) := by decide +kernel
theorem d_LW_law_1754 : decode Y_LW_law.2.1 1754 = .ok (.if_icmp .eq (5), 3) := by decide +kernel
theorem d_LW_law_1757 : decode Y_LW_law.2.1 1757 = .ok (.iconst (0), 1) := by decide +kernel
theorem d_LW_law_1758 : decode Y_LW_law.2.1 1758 = .ok (.ireturn, 1) := by decide +kernel
theorem d_LW_law_1759 : decode Y_LW_law.2.1 1759 = .ok (.iload 5, 2) := by decide +kernel
theorem d_LW_law_1761 : decode Y_LW_law.2.1 1761 = .ok (.ifCond .ne (15), 3) := by decide +kernel
theorem d_LW_law_1764 : decode Y_LW_law.2.1 1764 = .ok (.aload_n 3, 1) := by decide +kernel
theorem d_LW_law_1765 : decode Y_LW_law.2.1 1765 = .ok (.iconst (0), 1) := by decide +kernel
theorem d_LW_law_1766 : decode Y_LW_law.2.1 1766 = .ok (.laload, 1) := by decide +kernel
theorem d_LW_law_1767 : decode Y_LW_law.2.1 1767 = .ok (.iload 6, 2) := by decide +kernel
theorem d_LW_law_1769 : decode Y_LW_law.2.1 1769 = .ok (.i2l, 1) := by decide +kernel
theorem d_LW_law_1770 : decode Y_LW_law.2.1 1770 = .ok (.lcmp, 1) := by decide +kernel
theorem d_LW_law_1771 : decode Y_LW_law.2.1 1771 = .ok (.ifCond .eq (5), 3) := by decide +kernel
theorem d_LW_law_1774 : decode Y_LW_law.2.1 1774 = .ok (.iconst (0), 1) := by decide +kernel
theorem d_LW_law_1775 : decode Y_LW_law.2.1 1775 = .ok (.ireturn, 1) := by decide +kernel
theorem d_LW_law_1776 : decode Y_LW_law.2.1 1776 = .ok (.goto (59), 3) := by decide +kernel
theorem d_LW_law_1779 : decode Y_LW_law.2.1 1779 = .ok (.aload_n 1, 1) := by decide +kernel
theorem d_LW_law_1780 : decode Y_LW_law.2.1 1780 = .ok (.aload_n 0, 1) := by decide +kernel
theorem d_LW_law_1781 : decode Y_LW_law.2.1 1781 = .ok (.iload 4, 2) := by decide +kernel
theorem d_LW_law_1783 : decode Y_LW_law.2.1 1783 = .ok (.iconst (1), 1) := by decide +kernel
theorem d_LW_law_1784 : decode Y_LW_law.2.1 1784 = .ok (.iadd, 1) := by decide +kernel
theorem d_LW_law_1785 : decode Y_LW_law.2.1 1785 = .ok (.iaload, 1) := by decide +kernel
theorem d_LW_law_1786 : decode Y_LW_law.2.1 1786 = .ok (.aload_n 3, 1) := by decide +kernel
theorem d_LW_law_1787 : decode Y_LW_law.2.1 1787 = .ok (.invokestatic 193, 3) := by decide +kernel
theorem d_LW_law_1790 : decode Y_LW_law.2.1 1790 = .ok (.istore 5, 2) := by decide +kernel
theorem d_LW_law_1792 : decode Y_LW_law.2.1 1792 = .ok (.aload_n 2, 1) := by decide +kernel
theorem d_LW_law_1793 : decode Y_LW_law.2.1 1793 = .ok (.aload_n 0, 1) := by decide +kernel
theorem d_LW_law_1794 : decode Y_LW_law.2.1 1794 = .ok (.iload 4, 2) := by decide +kernel
theorem d_LW_law_1796 : decode Y_LW_law.2.1 1796 = .ok (.iconst (1), 1) := by decide +kernel
theorem d_LW_law_1797 : decode Y_LW_law.2.1 1797 = .ok (.iadd, 1) := by decide +kernel
theorem d_LW_law_1798 : decode Y_LW_law.2.1 1798 = .ok (.iaload, 1) := by decide +kernel
theorem d_LW_law_1799 : decode Y_LW_law.2.1 1799 = .ok (.invokevirtual 195, 3) := by decide +kernel
theorem d_LW_law_1802 : decode Y_LW_law.2.1 1802 = .ok (.istore 6, 2) := by decide +kernel
theorem d_LW_law_1804 : decode Y_LW_law.2.1 1804 = .ok (.aload_n 2, 1) := by decide +kernel
theorem d_LW_law_1805 : decode Y_LW_law.2.1 1805 = .ok (.invokevirtual 104, 3) := by decide +kernel
theorem d_LW_law_1808 : decode Y_LW_law.2.1 1808 = .ok (.iload 5, 2) := by decide +kernel
theorem d_LW_law_1810 : decode Y_LW_law.2.1 1810 = .ok (.if_icmp .eq (5), 3) := by decide +kernel
theorem d_LW_law_1813 : decode Y_LW_law.2.1 1813 = .ok (.iconst (0), 1) := by decide +kernel
theorem d_LW_law_1814 : decode Y_LW_law.2.1 1814 = .ok (.ireturn, 1) := by decide +kernel
theorem d_LW_law_1815 : decode Y_LW_law.2.1 1815 = .ok (.iload 5, 2) := by decide +kernel
theorem d_LW_law_1817 : decode Y_LW_law.2.1 1817 = .ok (.ifCond .ne (15), 3) := by decide +kernel
theorem d_LW_law_1820 : decode Y_LW_law.2.1 1820 = .ok (.aload_n 3, 1) := by decide +kernel
theorem d_LW_law_1821 : decode Y_LW_law.2.1 1821 = .ok (.iconst (0), 1) := by decide +kernel
theorem d_LW_law_1822 : decode Y_LW_law.2.1 1822 = .ok (.laload, 1) := by decide +kernel
theorem d_LW_law_1823 : decode Y_LW_law.2.1 1823 = .ok (.iload 6, 2) := by decide +kernel
theorem d_LW_law_1825 : decode Y_LW_law.2.1 1825 = .ok (.i2l, 1) := by decide +kernel
theorem d_LW_law_1826 : decode Y_LW_law.2.1 1826 = .ok (.lcmp, 1) := by decide +kernel
theorem d_LW_law_1827 : decode Y_LW_law.2.1 1827 = .ok (.ifCond .eq (5), 3) := by decide +kernel
theorem d_LW_law_1830 : decode Y_LW_law.2.1 1830 = .ok (.iconst (0), 1) := by decide +kernel
theorem d_LW_law_1831 : decode Y_LW_law.2.1 1831 = .ok (.ireturn, 1) := by decide +kernel
theorem d_LW_law_1832 : decode Y_LW_law.2.1 1832 = .ok (.goto (3), 3) := by decide +kernel
theorem d_LW_law_1835 : decode Y_LW_law.2.1 1835 = .ok (.iinc 4 (6), 3) := by decide +kernel
theorem d_LW_law_1838 : decode Y_LW_law.2.1 1838 = .ok (.goto (-1815), 3) := by decide +kernel
theorem d_LW_law_1841 : decode Y_LW_law.2.1 1841 = .ok (.iconst (1), 1) := by decide +kernel
theorem d_LW_law_1842 : decode Y_LW_law.2.1 1842 = .ok (.ireturn, 1) := by decide +kernel
def f_LW_law (z : zT) (D : zD) (r0 : Nat) : Option (Int32) := zjp (zlp (fun (_ : Nat) (_ : Nat) (_ : Nat) (_ : Int32) (_ : zW) (_ : zD) => none) (fun (j23 : Nat → Nat → Nat → Int32 → zW → zD → Option (Int32)) (r1 : Nat) (r2 : Nat) (r3 : Nat) (x4 : Int32) (w2 : zW) (D1 : zD) => zlen w2 4 r0 (fun v3 => (if (v3 - (6 : Int32)) < x4 then some (1 : Int32) else zjp (fun (r1 : Nat) (r2 : Nat) (r3 : Nat) (x4 : Int32) (w5 : zW) (D4 : zD) => zlet (x4 + (6 : Int32)) (fun v6 => j23 r1 r2 r3 v6 w5 D4)) (fun j1835 => zald w2 D1 4 r0 x4 (fun v7 => zlet (v7 &&& (31 : Int32)) (fun v8 => (if v8 = (0 : Int32) then zald w2 D1 4 r0 (x4 + (1 : Int32)) (fun v9 => zch (f_LW_append w2 D1 r1 v9 r3) (fun v10 w12 D11 => zald w12 D11 4 r0 (x4 + (1 : Int32)) (fun v13 => zobj w12 8 r2 (zci (f_MD_append w12 D11 r2 v13) (fun v14 D15 => zobj w12 8 r2 (zci (f_MD_thrown w12 D15 r2 ) (fun v16 D17 => (if v16 = v10 then zjp (fun (r1 : Nat) (r2 : Nat) (r3 : Nat) (x4 : Int32) (w19 : zW) (D18 : zD) => j1835 r1 r2 r3 x4 w19 D18) (fun j213 => (if v10 = 0 then zaldL w12 3 r3 (0 : Int32) (fun v20 => zlet (lg_cmp v20 v14.toInt64) (fun v21 => (if v21 = 0 then j213 r1 r2 r3 x4 w12 D17 else some (0 : Int32)))) else j213 r1 r2 r3 x4 w12 D17)) else some (0 : Int32))))))))) else (if v8 = (1 : Int32) then zobj w2 0 r1 (zci (f_SF_clearText w2 D1 r1 ) (fun v22 D23 => zobj w2 8 r2 (zci (f_MD_clearText w2 D23 r2 ) (fun v24 D25 => (if v22 = v24 then j1835 r1 r2 r3 x4 w2 D25 else some (0 : Int32)))))) else (if v8 = (2 : Int32) then zobj w2 0 r1 (zci (f_SF_errorPosition w2 D1 r1 ) (fun v26 D27 => zobj w2 8 r2 (zci (f_MD_errorPosition w2 D27 r2 ) (fun v28 D29 => (if v26 = v28 then j1835 r1 r2 r3 x4 w2 D29 else some (0 : Int32)))))) else (if v8 = (3 : Int32) then zch (f_LW_load w2 D1 r1 r3) (fun v30 w32 D31 => zobj w32 8 r2 (zci (f_MD_load w32 D31 r2 ) (fun v33 D34 => zobj w32 8 r2 (zci (f_MD_thrown w32 D34 r2 ) (fun v35 D36 => (if v35 = v30 then zjp (fun (r1 : Nat) (r2 : Nat) (r3 : Nat) (x4 : Int32) (w38 : zW) (D37 : zD) => j1835 r1 r2 r3 x4 w38 D37) (fun j283 => (if v30 = 0 then zaldL w32 3 r3 (0 : Int32) (fun v39 => zlet (lg_cmp v39 v33.toInt64) (fun v40 => (if v40 = 0 then j283 r1 r2 r3 x4 w32 D36 else some (0 : Int32)))) else j283 r1 r2 r3 x4 w32 D36)) else some (0 : Int32))))))) else (if v8 = (4 : Int32) then zald w2 D1 4 r0 (x4 + (1 : Int32)) (fun v41 => zch (f_LW_about w2 D1 r1 v41 r3) (fun v42 w44 D43 => zald w44 D43 4 r0 (x4 + (1 : Int32)) (fun v45 => zobj w44 8 r2 (zci (f_MD_about w44 D43 r2 v45) (fun v46 D47 => zobj w44 8 r2 (zci (f_MD_thrown w44 D47 r2 ) (fun v48 D49 => (if v48 = v42 then zjp (fun (r1 : Nat) (r2 : Nat) (r3 : Nat) (x4 : Int32) (w51 : zW) (D50 : zD) => j1835 r1 r2 r3 x4 w51 D50) (fun j339 => (if v42 = 0 then zaldL w44 3 r3 (0 : Int32) (fun v52 => zlet (lg_cmp v52 v46.toInt64) (fun v53 => (if v53 = 0 then j339 r1 r2 r3 x4 w44 D49 else some (0 : Int32)))) else j339 r1 r2 r3 x4 w44 D49)) else some (0 : Int32))))))))) else (if v8 = (5 : Int32) then zald w2 D1 4 r0 (x4 + (1 : Int32)) (fun v54 => zald w2 D1 4 r0 (x4 + (2 : Int32)) (fun v55 => zch (f_LW_sirenOf w2 D1 r1 v54 v55 r3) (fun v56 w58 D57 => zald w58 D57 4 r0 (x4 + (1 : Int32)) (fun v59 => zald w58 D57 4 r0 (x4 + (2 : Int32)) (fun v60 => zobj w58 8 r2 (zci (f_MD_sirenOf w58 D57 r2 v59 v60) (fun v61 D62 => zobj w58 8 r2 (zci (f_MD_thrown w58 D62 r2 ) (fun v63 D64 => (if v63 = v56 then zjp (fun (r1 : Nat) (r2 : Nat) (r3 : Nat) (x4 : Int32) (w66 : zW) (D65 : zD) => j1835 r1 r2 r3 x4 w66 D65) (fun j407 => (if v56 = 0 then zaldL w58 3 r3 (0 : Int32) (fun v67 => zlet (lg_cmp v67 v61.toInt64) (fun v68 => (if v68 = 0 then j407 r1 r2 r3 x4 w58 D64 else some (0 : Int32)))) else j407 r1 r2 r3 x4 w58 D64)) else some (0 : Int32))))))))))) else (if v8 = (6 : Int32) then zald w2 D1 4 r0 (x4 + (1 : Int32)) (fun v69 => zald w2 D1 4 r0 (x4 + (2 : Int32)) (fun v70 => zch (f_LW_hearerOf w2 D1 r1 v69 v70 r3) (fun v71 w73 D72 => zald w73 D72 4 r0 (x4 + (1 : Int32)) (fun v74 => zald w73 D72 4 r0 (x4 + (2 : Int32)) (fun v75 => zobj w73 8 r2 (zci (f_MD_hearerOf w73 D72 r2 v74 v75) (fun v76 D77 => zobj w73 8 r2 (zci (f_MD_thrown w73 D77 r2 ) (fun v78 D79 => (if v78 = v71 then zjp (fun (r1 : Nat) (r2 : Nat) (r3 : Nat) (x4 : Int32) (w81 : zW) (D80 : zD) => j1835 r1 r2 r3 x4 w81 D80) (fun j475 => (if v71 = 0 then zaldL w73 3 r3 (0 : Int32) (fun v82 => zlet (lg_cmp v82 v76.toInt64) (fun v83 => (if v83 = 0 then j475 r1 r2 r3 x4 w73 D79 else some (0 : Int32)))) else j475 r1 r2 r3 x4 w73 D79)) else some (0 : Int32))))))))))) else (if v8 = (7 : Int32) then zald w2 D1 4 r0 (x4 + (1 : Int32)) (fun v84 => zald w2 D1 4 r0 (x4 + (2 : Int32)) (fun v85 => zch (f_LW_wallOf w2 D1 r1 v84 v85 r3) (fun v86 w88 D87 => zald w88 D87 4 r0 (x4 + (1 : Int32)) (fun v89 => zald w88 D87 4 r0 (x4 + (2 : Int32)) (fun v90 => zobj w88 8 r2 (zci (f_MD_wallOf w88 D87 r2 v89 v90) (fun v91 D92 => zobj w88 8 r2 (zci (f_MD_thrown w88 D92 r2 ) (fun v93 D94 => (if v93 = v86 then zjp (fun (r1 : Nat) (r2 : Nat) (r3 : Nat) (x4 : Int32) (w96 : zW) (D95 : zD) => j1835 r1 r2 r3 x4 w96 D95) (fun j543 => (if v86 = 0 then zaldL w88 3 r3 (0 : Int32) (fun v97 => zlet (lg_cmp v97 v91.toInt64) (fun v98 => (if v98 = 0 then j543 r1 r2 r3 x4 w88 D94 else some (0 : Int32)))) else j543 r1 r2 r3 x4 w88 D94)) else some (0 : Int32))))))))))) else (if v8 = (8 : Int32) then zald w2 D1 4 r0 (x4 + (1 : Int32)) (fun v99 => zald w2 D1 4 r0 (x4 + (2 : Int32)) (fun v100 => zch (f_LW_pulse w2 D1 r1 v99 v100 r3) (fun v101 w103 D102 => zald w103 D102 4 r0 (x4 + (1 : Int32)) (fun v104 => zald w103 D102 4 r0 (x4 + (2 : Int32)) (fun v105 => zobj w103 8 r2 (zci (f_MD_pulse w103 D102 r2 v104 v105) (fun v106 D107 => zobj w103 8 r2 (zci (f_MD_thrown w103 D107 r2 ) (fun v108 D109 => (if v108 = v101 then zjp (fun (r1 : Nat) (r2 : Nat) (r3 : Nat) (x4 : Int32) (w111 : zW) (D110 : zD) => j1835 r1 r2 r3 x4 w111 D110) (fun j611 => (if v101 = 0 then zaldL w103 3 r3 (0 : Int32) (fun v112 => zlet (lg_cmp v112 v106.toInt64) (fun v113 => (if v113 = 0 then j611 r1 r2 r3 x4 w103 D109 else some (0 : Int32)))) else j611 r1 r2 r3 x4 w103 D109)) else some (0 : Int32))))))))))) else (if v8 = (9 : Int32) then zald w2 D1 4 r0 (x4 + (1 : Int32)) (fun v114 => zald w2 D1 4 r0 (x4 + (2 : Int32)) (fun v115 => zald w2 D1 4 r0 (x4 + (3 : Int32)) (fun v116 => zch (f_LW_heard w2 D1 r1 v114 v115 v116 r3) (fun v117 w119 D118 => zald w119 D118 4 r0 (x4 + (1 : Int32)) (fun v120 => zald w119 D118 4 r0 (x4 + (2 : Int32)) (fun v121 => zald w119 D118 4 r0 (x4 + (3 : Int32)) (fun v122 => zobj w119 8 r2 (zci (f_MD_heard w119 D118 r2 v120 v121 v122) (fun v123 D124 => zobj w119 8 r2 (zci (f_MD_thrown w119 D124 r2 ) (fun v125 D126 => (if v125 = v117 then zjp (fun (r1 : Nat) (r2 : Nat) (r3 : Nat) (x4 : Int32) (w128 : zW) (D127 : zD) => j1835 r1 r2 r3 x4 w128 D127) (fun j691 => (if v117 = 0 then zaldL w119 3 r3 (0 : Int32) (fun v129 => zlet (lg_cmp v129 v123.toInt64) (fun v130 => (if v130 = 0 then j691 r1 r2 r3 x4 w119 D126 else some (0 : Int32)))) else j691 r1 r2 r3 x4 w119 D126)) else some (0 : Int32))))))))))))) else (if v8 = (10 : Int32) then zald w2 D1 4 r0 (x4 + (1 : Int32)) (fun v131 => zald w2 D1 4 r0 (x4 + (2 : Int32)) (fun v132 => zald w2 D1 4 r0 (x4 + (3 : Int32)) (fun v133 => zald w2 D1 4 r0 (x4 + (4 : Int32)) (fun v134 => zald w2 D1 4 r0 (x4 + (5 : Int32)) (fun v135 => zch (f_LW_siren w2 D1 r1 v131 v132 v133 v134 v135 r3) (fun v136 w138 D137 => zald w138 D137 4 r0 (x4 + (1 : Int32)) (fun v139 => zald w138 D137 4 r0 (x4 + (2 : Int32)) (fun v140 => zald w138 D137 4 r0 (x4 + (3 : Int32)) (fun v141 => zald w138 D137 4 r0 (x4 + (4 : Int32)) (fun v142 => zald w138 D137 4 r0 (x4 + (5 : Int32)) (fun v143 => zobj w138 8 r2 (zci (f_MD_siren w138 D137 r2 v139 v140 v141 v142 v143) (fun v144 D145 => zobj w138 8 r2 (zci (f_MD_thrown w138 D145 r2 ) (fun v146 D147 => (if v146 = v136 then zjp (fun (r1 : Nat) (r2 : Nat) (r3 : Nat) (x4 : Int32) (w149 : zW) (D148 : zD) => j1835 r1 r2 r3 x4 w149 D148) (fun j795 => (if v136 = 0 then zaldL w138 3 r3 (0 : Int32) (fun v150 => zlet (lg_cmp v150 v144.toInt64) (fun v151 => (if v151 = 0 then j795 r1 r2 r3 x4 w138 D147 else some (0 : Int32)))) else j795 r1 r2 r3 x4 w138 D147)) else some (0 : Int32))))))))))))))))) else (if v8 = (11 : Int32) then zald w2 D1 4 r0 (x4 + (1 : Int32)) (fun v152 => zald w2 D1 4 r0 (x4 + (2 : Int32)) (fun v153 => zald w2 D1 4 r0 (x4 + (3 : Int32)) (fun v154 => zald w2 D1 4 r0 (x4 + (4 : Int32)) (fun v155 => zch (f_LW_hearer w2 D1 r1 v152 v153 v154 v155 r3) (fun v156 w158 D157 => zald w158 D157 4 r0 (x4 + (1 : Int32)) (fun v159 => zald w158 D157 4 r0 (x4 + (2 : Int32)) (fun v160 => zald w158 D157 4 r0 (x4 + (3 : Int32)) (fun v161 => zald w158 D157 4 r0 (x4 + (4 : Int32)) (fun v162 => zobj w158 8 r2 (zci (f_MD_hearer w158 D157 r2 v159 v160 v161 v162) (fun v163 D164 => zobj w158 8 r2 (zci (f_MD_thrown w158 D164 r2 ) (fun v165 D166 => (if v165 = v156 then zjp (fun (r1 : Nat) (r2 : Nat) (r3 : Nat) (x4 : Int32) (w168 : zW) (D167 : zD) => j1835 r1 r2 r3 x4 w168 D167) (fun j887 => (if v156 = 0 then zaldL w158 3 r3 (0 : Int32) (fun v169 => zlet (lg_cmp v169 v163.toInt64) (fun v170 => (if v170 = 0 then j887 r1 r2 r3 x4 w158 D166 else some (0 : Int32)))) else j887 r1 r2 r3 x4 w158 D166)) else some (0 : Int32))))))))))))))) else (if v8 = (12 : Int32) then zjp (fun (r1 : Nat) (r2 : Nat) (r3 : Nat) (x4 : Int32) (s0 : Nat) (s1 : Int32) (w172 : zW) (D171 : zD) => zjp (fun (r1 : Nat) (r2 : Nat) (r3 : Nat) (x4 : Int32) (x5 : Int32) (s0 : Nat) (s1 : Int32) (w174 : zW) (D173 : zD) => zald w174 D173 4 r0 (x4 + (2 : Int32)) (fun v175 => zobj w174 8 s0 (zci (f_MD_wall w174 D173 s0 s1 v175) (fun v176 D177 => zobj w174 8 r2 (zci (f_MD_thrown w174 D177 r2 ) (fun v178 D179 => (if v178 = x5 then zjp (fun (r1 : Nat) (r2 : Nat) (r3 : Nat) (x4 : Int32) (w181 : zW) (D180 : zD) => j1835 r1 r2 r3 x4 w181 D180) (fun j971 => (if x5 = 0 then zaldL w174 3 r3 (0 : Int32) (fun v182 => zlet (lg_cmp v182 v176.toInt64) (fun v183 => (if v183 = 0 then j971 r1 r2 r3 x4 w174 D179 else some (0 : Int32)))) else j971 r1 r2 r3 x4 w174 D179)) else some (0 : Int32)))))))) (fun j932 => zald w172 D171 4 r0 (x4 + (2 : Int32)) (fun v184 => zch (f_LW_wall w172 D171 s0 s1 v184 r3) (fun v185 w187 D186 => zald w187 D186 4 r0 (x4 + (1 : Int32)) (fun v188 => (if v188 = 0 then j932 r1 r2 r3 x4 v185 r2 (0 : Int32) w187 D186 else j932 r1 r2 r3 x4 v185 r2 (1 : Int32) w187 D186)))))) (fun j905 => zald w2 D1 4 r0 (x4 + (1 : Int32)) (fun v189 => (if v189 = 0 then j905 r1 r2 r3 x4 r1 (0 : Int32) w2 D1 else j905 r1 r2 r3 x4 r1 (1 : Int32) w2 D1))) else (if v8 = (13 : Int32) then zjp (fun (r1 : Nat) (r2 : Nat) (r3 : Nat) (x4 : Int32) (s0 : Nat) (s1 : Int32) (s2 : Int32) (w191 : zW) (D190 : zD) => zjp (fun (r1 : Nat) (r2 : Nat) (r3 : Nat) (x4 : Int32) (x5 : Int32) (s0 : Nat) (s1 : Int32) (s2 : Int32) (w193 : zW) (D192 : zD) => zobj w193 8 s0 (zci (f_MD_turn w193 D192 s0 s1 s2) (fun v194 D195 => zobj w193 8 r2 (zci (f_MD_thrown w193 D195 r2 ) (fun v196 D197 => (if v196 = x5 then zjp (fun (r1 : Nat) (r2 : Nat) (r3 : Nat) (x4 : Int32) (w199 : zW) (D198 : zD) => j1835 r1 r2 r3 x4 w199 D198) (fun j1055 => (if x5 = 0 then zaldL w193 3 r3 (0 : Int32) (fun v200 => zlet (lg_cmp v200 v194.toInt64) (fun v201 => (if v201 = 0 then j1055 r1 r2 r3 x4 w193 D197 else some (0 : Int32)))) else j1055 r1 r2 r3 x4 w193 D197)) else some (0 : Int32))))))) (fun j1022 => zch (f_LW_turn w191 D190 s0 s1 s2 r3) (fun v202 w204 D203 => zald w204 D203 4 r0 (x4 + (1 : Int32)) (fun v205 => zald w204 D203 4 r0 (x4 + (2 : Int32)) (fun v206 => (if v206 = 0 then j1022 r1 r2 r3 x4 v202 r2 v205 (0 : Int32) w204 D203 else j1022 r1 r2 r3 x4 v202 r2 v205 (1 : Int32) w204 D203)))))) (fun j995 => zald w2 D1 4 r0 (x4 + (1 : Int32)) (fun v207 => zald w2 D1 4 r0 (x4 + (2 : Int32)) (fun v208 => (if v208 = 0 then j995 r1 r2 r3 x4 r1 v207 (0 : Int32) w2 D1 else j995 r1 r2 r3 x4 r1 v207 (1 : Int32) w2 D1)))) else (if v8 = (14 : Int32) then zald w2 D1 4 r0 (x4 + (1 : Int32)) (fun v209 => zald w2 D1 4 r0 (x4 + (2 : Int32)) (fun v210 => zald w2 D1 4 r0 (x4 + (3 : Int32)) (fun v211 => zch (f_LW_walk w2 D1 r1 v209 v210 v211 r3) (fun v212 w214 D213 => zald w214 D213 4 r0 (x4 + (1 : Int32)) (fun v215 => zald w214 D213 4 r0 (x4 + (2 : Int32)) (fun v216 => zald w214 D213 4 r0 (x4 + (3 : Int32)) (fun v217 => zobj w214 8 r2 (zci (f_MD_walk w214 D213 r2 v215 v216 v217) (fun v218 D219 => zobj w214 8 r2 (zci (f_MD_thrown w214 D219 r2 ) (fun v220 D221 => (if v220 = v212 then zjp (fun (r1 : Nat) (r2 : Nat) (r3 : Nat) (x4 : Int32) (w223 : zW) (D222 : zD) => j1835 r1 r2 r3 x4 w223 D222) (fun j1135 => (if v212 = 0 then zaldL w214 3 r3 (0 : Int32) (fun v224 => zlet (lg_cmp v224 v218.toInt64) (fun v225 => (if v225 = 0 then j1135 r1 r2 r3 x4 w214 D221 else some (0 : Int32)))) else j1135 r1 r2 r3 x4 w214 D221)) else some (0 : Int32))))))))))))) else (if v8 = (15 : Int32) then zald w2 D1 4 r0 (x4 + (1 : Int32)) (fun v226 => zch (f_LW_ticks w2 D1 r1 v226 r3) (fun v227 w229 D228 => zald w229 D228 4 r0 (x4 + (1 : Int32)) (fun v230 => zobj w229 8 r2 (zci (f_MD_ticks w229 D228 r2 v230) (fun v231 D232 => zobj w229 8 r2 (zci (f_MD_thrown w229 D232 r2 ) (fun v233 D234 => (if v233 = v227 then zjp (fun (r1 : Nat) (r2 : Nat) (r3 : Nat) (x4 : Int32) (w236 : zW) (D235 : zD) => j1835 r1 r2 r3 x4 w236 D235) (fun j1191 => (if v227 = 0 then zaldL w229 3 r3 (0 : Int32) (fun v237 => zlet (lg_cmp v237 v231.toInt64) (fun v238 => (if v238 = 0 then j1191 r1 r2 r3 x4 w229 D234 else some (0 : Int32)))) else j1191 r1 r2 r3 x4 w229 D234)) else some (0 : Int32))))))))) else (if v8 = (16 : Int32) then zald w2 D1 4 r0 (x4 + (1 : Int32)) (fun v239 => zald w2 D1 4 r0 (x4 + (2 : Int32)) (fun v240 => zch (f_LW_set w2 D1 r1 v239 v240 r3) (fun v241 w243 D242 => zald w243 D242 4 r0 (x4 + (1 : Int32)) (fun v244 => zald w243 D242 4 r0 (x4 + (2 : Int32)) (fun v245 => zobj w243 8 r2 (zci (f_MD_set w243 D242 r2 v244 v245) (fun v246 D247 => zobj w243 8 r2 (zci (f_MD_thrown w243 D247 r2 ) (fun v248 D249 => (if v248 = v241 then zjp (fun (r1 : Nat) (r2 : Nat) (r3 : Nat) (x4 : Int32) (w251 : zW) (D250 : zD) => j1835 r1 r2 r3 x4 w251 D250) (fun j1259 => (if v241 = 0 then zaldL w243 3 r3 (0 : Int32) (fun v252 => zlet (lg_cmp v252 v246.toInt64) (fun v253 => (if v253 = 0 then j1259 r1 r2 r3 x4 w243 D249 else some (0 : Int32)))) else j1259 r1 r2 r3 x4 w243 D249)) else some (0 : Int32))))))))))) else (if v8 = (17 : Int32) then zch (f_LW_undo w2 D1 r1 r3) (fun v254 w256 D255 => zobj w256 8 r2 (zci (f_MD_undo w256 D255 r2 ) (fun v257 D258 => zobj w256 8 r2 (zci (f_MD_thrown w256 D258 r2 ) (fun v259 D260 => (if v259 = v254 then zjp (fun (r1 : Nat) (r2 : Nat) (r3 : Nat) (x4 : Int32) (w262 : zW) (D261 : zD) => j1835 r1 r2 r3 x4 w262 D261) (fun j1303 => (if v254 = 0 then zaldL w256 3 r3 (0 : Int32) (fun v263 => zlet (lg_cmp v263 v257.toInt64) (fun v264 => (if v264 = 0 then j1303 r1 r2 r3 x4 w256 D260 else some (0 : Int32)))) else j1303 r1 r2 r3 x4 w256 D260)) else some (0 : Int32))))))) else (if v8 = (18 : Int32) then zald w2 D1 4 r0 (x4 + (1 : Int32)) (fun v265 => zald w2 D1 4 r0 (x4 + (2 : Int32)) (fun v266 => zald w2 D1 4 r0 (x4 + (3 : Int32)) (fun v267 => zch (f_LW_sirenIn w2 D1 r1 v265 v266 v267 r3) (fun v268 w270 D269 => zald w270 D269 4 r0 (x4 + (1 : Int32)) (fun v271 => zald w270 D269 4 r0 (x4 + (2 : Int32)) (fun v272 => zald w270 D269 4 r0 (x4 + (3 : Int32)) (fun v273 => zobj w270 8 r2 (zci (f_MD_sirenIn w270 D269 r2 v271 v272 v273) (fun v274 D275 => zobj w270 8 r2 (zci (f_MD_thrown w270 D275 r2 ) (fun v276 D277 => (if v276 = v268 then zjp (fun (r1 : Nat) (r2 : Nat) (r3 : Nat) (x4 : Int32) (w279 : zW) (D278 : zD) => j1835 r1 r2 r3 x4 w279 D278) (fun j1383 => (if v268 = 0 then zaldL w270 3 r3 (0 : Int32) (fun v280 => zlet (lg_cmp v280 v274.toInt64) (fun v281 => (if v281 = 0 then j1383 r1 r2 r3 x4 w270 D277 else some (0 : Int32)))) else j1383 r1 r2 r3 x4 w270 D277)) else some (0 : Int32))))))))))))) else (if v8 = (19 : Int32) then zald w2 D1 4 r0 (x4 + (1 : Int32)) (fun v282 => zald w2 D1 4 r0 (x4 + (2 : Int32)) (fun v283 => zch (f_LW_heardIn w2 D1 r1 v282 v283 r3) (fun v284 w286 D285 => zald w286 D285 4 r0 (x4 + (1 : Int32)) (fun v287 => zald w286 D285 4 r0 (x4 + (2 : Int32)) (fun v288 => zobj w286 8 r2 (zci (f_MD_heardIn w286 D285 r2 v287 v288) (fun v289 D290 => zobj w286 8 r2 (zci (f_MD_thrown w286 D290 r2 ) (fun v291 D292 => (if v291 = v284 then zjp (fun (r1 : Nat) (r2 : Nat) (r3 : Nat) (x4 : Int32) (w294 : zW) (D293 : zD) => j1835 r1 r2 r3 x4 w294 D293) (fun j1451 => (if v284 = 0 then zaldL w286 3 r3 (0 : Int32) (fun v295 => zlet (lg_cmp v295 v289.toInt64) (fun v296 => (if v296 = 0 then j1451 r1 r2 r3 x4 w286 D292 else some (0 : Int32)))) else j1451 r1 r2 r3 x4 w286 D292)) else some (0 : Int32))))))))))) else (if v8 = (20 : Int32) then zobj w2 0 r1 (zci (f_SF_quietIn w2 D1 r1 ) (fun v297 D298 => zobj w2 8 r2 (zci (f_MD_quietIn w2 D298 r2 ) (fun v299 D300 => (if v297 = v299 then j1835 r1 r2 r3 x4 w2 D300 else some (0 : Int32)))))) else (if v8 = (21 : Int32) then zald w2 D1 4 r0 (x4 + (1 : Int32)) (fun v301 => zch (f_LW_leastSpeed w2 D1 r1 v301 r3) (fun v302 w304 D303 => zald w304 D303 4 r0 (x4 + (1 : Int32)) (fun v305 => zobj w304 8 r2 (zci (f_MD_leastSpeed w304 D303 r2 v305) (fun v306 D307 => zobj w304 8 r2 (zci (f_MD_thrown w304 D307 r2 ) (fun v308 D309 => (if v308 = v302 then zjp (fun (r1 : Nat) (r2 : Nat) (r3 : Nat) (x4 : Int32) (w311 : zW) (D310 : zD) => j1835 r1 r2 r3 x4 w311 D310) (fun j1520 => (if v302 = 0 then zaldL w304 3 r3 (0 : Int32) (fun v312 => zlet (lg_cmp v312 v306.toInt64) (fun v313 => (if v313 = 0 then j1520 r1 r2 r3 x4 w304 D309 else some (0 : Int32)))) else j1520 r1 r2 r3 x4 w304 D309)) else some (0 : Int32))))))))) else (if v8 = (22 : Int32) then zald w2 D1 4 r0 (x4 + (1 : Int32)) (fun v314 => zald w2 D1 4 r0 (x4 + (2 : Int32)) (fun v315 => zald w2 D1 4 r0 (x4 + (3 : Int32)) (fun v316 => zch (f_LW_runScript w2 D1 r1 v314 ((v315.toInt64 <<< ((32 : Int32).toInt64 &&& 63)) ||| (v316.toInt64 &&& (4294967295 : Int64))) r3) (fun v317 w319 D318 => zald w319 D318 4 r0 (x4 + (1 : Int32)) (fun v320 => zald w319 D318 4 r0 (x4 + (2 : Int32)) (fun v321 => zald w319 D318 4 r0 (x4 + (3 : Int32)) (fun v322 => zobj w319 8 r2 (zci (f_MD_runScript w319 D318 r2 v320 ((v321.toInt64 <<< ((32 : Int32).toInt64 &&& 63)) ||| (v322.toInt64 &&& (4294967295 : Int64)))) (fun v323 D324 => zobj w319 8 r2 (zci (f_MD_thrown w319 D324 r2 ) (fun v325 D326 => (if v325 = v317 then zjp (fun (r1 : Nat) (r2 : Nat) (r3 : Nat) (x4 : Int32) (w328 : zW) (D327 : zD) => j1835 r1 r2 r3 x4 w328 D327) (fun j1620 => (if v317 = 0 then zaldL w319 3 r3 (0 : Int32) (fun v329 => zlet (lg_cmp v329 v323.toInt64) (fun v330 => (if v330 = 0 then j1620 r1 r2 r3 x4 w319 D326 else some (0 : Int32)))) else j1620 r1 r2 r3 x4 w319 D326)) else some (0 : Int32))))))))))))) else (if v8 = (23 : Int32) then zald w2 D1 4 r0 (x4 + (1 : Int32)) (fun v331 => zald w2 D1 4 r0 (x4 + (2 : Int32)) (fun v332 => zald w2 D1 4 r0 (x4 + (3 : Int32)) (fun v333 => zch (f_LW_simulate w2 D1 r1 ((v331.toInt64 <<< ((32 : Int32).toInt64 &&& 63)) ||| (v332.toInt64 &&& (4294967295 : Int64))) v333 r3) (fun v334 w336 D335 => zald w336 D335 4 r0 (x4 + (1 : Int32)) (fun v337 => zald w336 D335 4 r0 (x4 + (2 : Int32)) (fun v338 => zald w336 D335 4 r0 (x4 + (3 : Int32)) (fun v339 => zobj w336 8 r2 (zci (f_MD_simulate w336 D335 r2 ((v337.toInt64 <<< ((32 : Int32).toInt64 &&& 63)) ||| (v338.toInt64 &&& (4294967295 : Int64))) v339) (fun v340 D341 => zobj w336 8 r2 (zci (f_MD_thrown w336 D341 r2 ) (fun v342 D343 => (if v342 = v334 then zjp (fun (r1 : Nat) (r2 : Nat) (r3 : Nat) (x4 : Int32) (w345 : zW) (D344 : zD) => j1835 r1 r2 r3 x4 w345 D344) (fun j1720 => (if v334 = 0 then zaldL w336 3 r3 (0 : Int32) (fun v346 => zlet (lg_cmp v346 v340.toInt64) (fun v347 => (if v347 = 0 then j1720 r1 r2 r3 x4 w336 D343 else some (0 : Int32)))) else j1720 r1 r2 r3 x4 w336 D343)) else some (0 : Int32))))))))))))) else (if v8 = (24 : Int32) then zald w2 D1 4 r0 (x4 + (1 : Int32)) (fun v348 => zch (f_LW_save w2 D1 r1 v348 r3) (fun v349 w351 D350 => zald w351 D350 4 r0 (x4 + (1 : Int32)) (fun v352 => zobj w351 8 r2 (zci (f_MD_save w351 D350 r2 v352) (fun v353 D354 => zobj w351 8 r2 (zci (f_MD_thrown w351 D354 r2 ) (fun v355 D356 => (if v355 = v349 then zjp (fun (r1 : Nat) (r2 : Nat) (r3 : Nat) (x4 : Int32) (w358 : zW) (D357 : zD) => j1835 r1 r2 r3 x4 w358 D357) (fun j1776 => (if v349 = 0 then zaldL w351 3 r3 (0 : Int32) (fun v359 => zlet (lg_cmp v359 v353.toInt64) (fun v360 => (if v360 = 0 then j1776 r1 r2 r3 x4 w351 D356 else some (0 : Int32)))) else j1776 r1 r2 r3 x4 w351 D356)) else some (0 : Int32))))))))) else (if v8 = (25 : Int32) then zald w2 D1 4 r0 (x4 + (1 : Int32)) (fun v361 => zch (f_LW_restore w2 D1 r1 v361 r3) (fun v362 w364 D363 => zald w364 D363 4 r0 (x4 + (1 : Int32)) (fun v365 => zobj w364 8 r2 (zci (f_MD_restore w364 D363 r2 v365) (fun v366 D367 => zobj w364 8 r2 (zci (f_MD_thrown w364 D367 r2 ) (fun v368 D369 => (if v368 = v362 then zjp (fun (r1 : Nat) (r2 : Nat) (r3 : Nat) (x4 : Int32) (w371 : zW) (D370 : zD) => j1835 r1 r2 r3 x4 w371 D370) (fun j1832 => (if v362 = 0 then zaldL w364 3 r3 (0 : Int32) (fun v372 => zlet (lg_cmp v372 v366.toInt64) (fun v373 => (if v373 = 0 then j1832 r1 r2 r3 x4 w364 D369 else some (0 : Int32)))) else j1832 r1 r2 r3 x4 w364 D369)) else some (0 : Int32))))))))) else j1835 r1 r2 r3 x4 w2 D1)))))))))))))))))))))))))))))))) 513) (fun j23 => znew z D (.inr (.inr (0, [some none, some none, some none, some none, some none, none, none, some none, some none]))) (fun q374 z375 D376 => zcc (f_SF_init z375 D376 q374 ) (fun z377 D378 => znew z377 D378 (.inr (.inr (8, [none, some none, none, some none, some none, some none, none, some none, some none, none, none]))) (fun q379 z380 D381 => zcc (f_MD_init z380 D381 q379 ) (fun z382 D383 => znew z382 D383 (.inl (3, 1)) (fun q384 z385 D386 => j23 q374 q379 q384 (0 : Int32) z385.2 D386))))))
set_option maxHeartbeats 4000000 in
set_option maxRecDepth 100000 in
theorem c_LW_law (K : zK) (z : zT) (D : zD) (r0 : Nat) : zGO K Y_LW_law 10 601024 7293034 zqL (f_LW_law z D r0) 601024 7293034 z D 0 [(0, .ref r0)] [] := by
  unfold f_LW_law
  refine z_jp (fun j23 : Nat → Nat → Nat → Int32 → zW → zD → Option (Int32) => ∀ (r1 : Nat) (r2 : Nat) (r3 : Nat) (x4 : Int32) (z2 : zT) (D1 : zD), zGO K Y_LW_law 10 601024 7293034 zqL (j23 r1 r2 r3 x4 z2.2 D1) 513 3078 z2 D1 23 [(0, .ref r0), (1, .ref r1), (2, .ref r2), (3, .ref r3), (4, .int x4)] []) (z_lpA (fun (n23 : Nat) (j23 : Nat → Nat → Nat → Int32 → zW → zD → Option (Int32)) => ∀ (r1 : Nat) (r2 : Nat) (r3 : Nat) (x4 : Int32) (z2 : zT) (D1 : zD), zGO K Y_LW_law 10 601024 7293034 zqL (j23 r1 r2 r3 x4 z2.2 D1) (n23 * 1 + 0) (n23 * 6 + 0) z2 D1 23 [(0, .ref r0), (1, .ref r1), (2, .ref r2), (3, .ref r3), (4, .int x4)] []) (fun _ _ _ _ _ _ => z_none) (fun n23 j23 h23 r1 r2 r3 x4 z2 D1 => ?_) 513) (fun j23 h23 => ?_)
  · refine z_iload (pc := 23) d_LW_law_23 4 rfl ?_
    refine z_aload_n (pc := 25) d_LW_law_25 rfl 0 rfl ?_
    refine z_alenR (pc := 26) d_LW_law_26 (fun v3 => ?_)
    refine z_bipush (pc := 27) d_LW_law_27 kb_6 ?_
    refine z_isub (pc := 29) d_LW_law_29 ?_
    refine z_icmp_gt (pc := 30) (tgt := 1841) d_LW_law_30 (by decide) ?_ ?_
    · refine z_kc (kc' := 0) (ks' := 0) (by omega) (by omega) ?_
      refine z_iconst (pc := 1841) d_LW_law_1841 ki_1 ?_
      exact z_lret (pc := 1842) d_LW_law_1842 rfl (by decide)
    · refine z_jp (fun j1835 : Nat → Nat → Nat → Int32 → zW → zD → Option (Int32) => ∀ (r1 : Nat) (r2 : Nat) (r3 : Nat) (x4 : Int32) (z5 : zT) (D4 : zD), zGO K Y_LW_law 10 601024 7293034 zqL (j1835 r1 r2 r3 x4 z5.2 D4) (n23 * 1 + 0) (n23 * 6 + 0) z5 D4 1835 [(0, .ref r0), (1, .ref r1), (2, .ref r2), (3, .ref r3), (4, .int x4)] []) (fun r1 r2 r3 x4 z5 D4 => ?_) (fun j1835 h1835 => ?_)
      · refine z_iincL (pc := 1835) d_LW_law_1835 ki_6 4 rfl (by decide) (fun v6 => z_lvc (lv2 := [(4, .int v6), (0, .ref r0), (1, .ref r1), (2, .ref r2), (3, .ref r3)]) rfl ?_)
        refine z_goto (pc := 1838) (tgt := 23) d_LW_law_1838 (by decide) ?_
        refine z_kc (by omega) (by omega) (z_sub [1, 2, 3, 4, 0] rfl (h23 r1 r2 r3 v6 z5 D4))
      · refine z_aload_n (pc := 33) d_LW_law_33 rfl 0 rfl ?_
        refine z_iload (pc := 34) d_LW_law_34 4 rfl ?_
        refine z_ialoadR (pc := 36) d_LW_law_36 (fun v7 => ?_)
        refine z_bipush (pc := 37) d_LW_law_37 kb_31 ?_
        refine z_iand (pc := 39) d_LW_law_39 ?_
        refine z_leti (fun v8 => ?_)
        refine z_case (fun e0 => ?_) (fun e0 => ?_)
        · refine z_tableIn (pc := 40) (tgt := 160) d_LW_law_40 e0 (by decide) (by decide) rfl (by decide) ?_
          refine z_aload_n (pc := 160) d_LW_law_160 rfl 1 rfl ?_
          refine z_aload_n (pc := 161) d_LW_law_161 rfl 0 rfl ?_
          refine z_iload (pc := 162) d_LW_law_162 4 rfl ?_
          refine z_iconst (pc := 164) d_LW_law_164 ki_1 ?_
          refine z_iadd (pc := 165) d_LW_law_165 ?_
          refine z_ialoadR (pc := 166) d_LW_law_166 (fun v9 => ?_)
          refine z_aload_n (pc := 167) d_LW_law_167 rfl 3 rfl ?_
          refine z_callH (pc := 168) (kc2 := (n23 * 1 + 0)) (ks2 := (n23 * 6 + 0)) [.ref r1, .int v9, .ref r3] lkH_LW_98 (c_LW_append z2 D1 r1 v9 r3) (by decide) (by omega) (by omega) rfl rfl (Nat.le_of_ble_eq_true rfl) d_LW_law_168 (fun v10 D11 z12 => ?_)
          refine z_istore (pc := 171) d_LW_law_171 (by decide) (lv' := [(5, .int v10), (0, .ref r0), (1, .ref r1), (2, .ref r2), (3, .ref r3), (4, .int x4)]) rfl ?_
          refine z_aload_n (pc := 173) d_LW_law_173 rfl 3 rfl ?_
          refine z_aload_n (pc := 174) d_LW_law_174 rfl 1 rfl ?_
          refine z_iload (pc := 175) d_LW_law_175 5 rfl ?_
          refine z_iconst (pc := 177) d_LW_law_177 ki_1 ?_
          refine z_iadd (pc := 178) d_LW_law_178 ?_
          refine z_ialoadR (pc := 179) d_LW_law_179 (fun v13 => ?_)
          refine z_callVi (pc := 180) [.int v13] lkV_LW_103 rfl (c_MD_append z12 D11 r2 v13) (by decide) rfl rfl (Nat.le_of_ble_eq_true rfl) d_LW_law_180 (fun v14 D15 => ?_)
          refine z_istore (pc := 183) d_LW_law_183 (by decide) (lv' := [(6, .int v14), (5, .int v10), (0, .ref r0), (1, .ref r1), (2, .ref r2), (3, .ref r3), (4, .int x4)]) rfl ?_
          refine z_aload_n (pc := 185) d_LW_law_185 rfl 4 rfl ?_
          refine z_callVi (pc := 186) [] lkV_LW_104 rfl (c_MD_thrown z12 D15 r2 ) (by decide) rfl rfl (Nat.le_of_ble_eq_true rfl) d_LW_law_186 (fun v16 D17 => ?_)
          refine z_iload (pc := 189) d_LW_law_189 1 rfl ?_
          refine z_icmp_eq (pc := 191) (tgt := 196) d_LW_law_191 (by decide) ?_ ?_
          · refine z_jp (fun j213 : Nat → Nat → Nat → Int32 → zW → zD → Option (Int32) => ∀ (r1 : Nat) (r2 : Nat) (r3 : Nat) (x4 : Int32) (z19 : zT) (D18 : zD), zGO K Y_LW_law 10 601024 7293034 zqL (j213 r1 r2 r3 x4 z19.2 D18) (n23 * 1 + 0) (n23 * 6 + 0) z19 D18 213 [(0, .ref r0), (1, .ref r1), (2, .ref r2), (3, .ref r3), (4, .int x4)] []) (fun r1 r2 r3 x4 z19 D18 => ?_) (fun j213 h213 => ?_)
            · refine z_goto (pc := 213) (tgt := 1835) d_LW_law_213 (by decide) ?_
              refine z_kc (by omega) (by omega) (z_sub [0, 1, 2, 3, 4] rfl (h1835 r1 r2 r3 x4 z19 D18))
            · refine z_iload (pc := 196) d_LW_law_196 1 rfl ?_
              refine z_if_ne (pc := 198) (tgt := 213) d_LW_law_198 (by decide) ?_ ?_
              · refine z_aload_n (pc := 201) d_LW_law_201 rfl 5 rfl ?_
                refine z_iconst (pc := 202) d_LW_law_202 ki_0 ?_
                refine z_laload (pc := 203) d_LW_law_203 (fun v20 => ?_)
                refine z_iload (pc := 204) d_LW_law_204 0 rfl ?_
                refine z_i2l (pc := 206) d_LW_law_206 ?_
                refine z_lcmp (pc := 207) d_LW_law_207 (fun v21 => ?_)
                refine z_if_eq (pc := 208) (tgt := 213) d_LW_law_208 (by decide) ?_ ?_
                · refine z_kc (by omega) (by omega) (z_sub [2, 3, 4, 5, 6] rfl (h213 r1 r2 r3 x4 z12 D17))
                · refine z_kc (kc' := 0) (ks' := 0) (by omega) (by omega) ?_
                  refine z_iconst (pc := 211) d_LW_law_211 ki_0 ?_
                  exact z_lret (pc := 212) d_LW_law_212 rfl (by decide)
              · refine z_kc (by omega) (by omega) (z_sub [2, 3, 4, 5, 6] rfl (h213 r1 r2 r3 x4 z12 D17))
          · refine z_kc (kc' := 0) (ks' := 0) (by omega) (by omega) ?_
            refine z_iconst (pc := 194) d_LW_law_194 ki_0 ?_
            exact z_lret (pc := 195) d_LW_law_195 rfl (by decide)
        · refine z_case (fun e1 => ?_) (fun e1 => ?_)
          · refine z_tableIn (pc := 40) (tgt := 216) d_LW_law_40 e1 (by decide) (by decide) rfl (by decide) ?_
            refine z_aload_n (pc := 216) d_LW_law_216 rfl 1 rfl ?_
            refine z_callVi (pc := 217) [] lkV_LW_107 rfl (c_SF_clearText z2 D1 r1 ) (by decide) rfl rfl (Nat.le_of_ble_eq_true rfl) d_LW_law_217 (fun v22 D23 => ?_)
            refine z_aload_n (pc := 220) d_LW_law_220 rfl 2 rfl ?_
            refine z_callVi (pc := 221) [] lkV_LW_110 rfl (c_MD_clearText z2 D23 r2 ) (by decide) rfl rfl (Nat.le_of_ble_eq_true rfl) d_LW_law_221 (fun v24 D25 => ?_)
            refine z_icmp_eq (pc := 224) (tgt := 1835) d_LW_law_224 (by decide) ?_ ?_
            · refine z_kc (by omega) (by omega) (z_sub [0, 1, 2, 3, 4] rfl (h1835 r1 r2 r3 x4 z2 D25))
            · refine z_kc (kc' := 0) (ks' := 0) (by omega) (by omega) ?_
              refine z_iconst (pc := 227) d_LW_law_227 ki_0 ?_
              exact z_lret (pc := 228) d_LW_law_228 rfl (by decide)
          · refine z_case (fun e2 => ?_) (fun e2 => ?_)
            · refine z_tableIn (pc := 40) (tgt := 229) d_LW_law_40 e2 (by decide) (by decide) rfl (by decide) ?_
              refine z_aload_n (pc := 229) d_LW_law_229 rfl 1 rfl ?_
              refine z_callVi (pc := 230) [] lkV_LW_111 rfl (c_SF_errorPosition z2 D1 r1 ) (by decide) rfl rfl (Nat.le_of_ble_eq_true rfl) d_LW_law_230 (fun v26 D27 => ?_)
              refine z_aload_n (pc := 233) d_LW_law_233 rfl 2 rfl ?_
              refine z_callVi (pc := 234) [] lkV_LW_114 rfl (c_MD_errorPosition z2 D27 r2 ) (by decide) rfl rfl (Nat.le_of_ble_eq_true rfl) d_LW_law_234 (fun v28 D29 => ?_)
              refine z_icmp_eq (pc := 237) (tgt := 1835) d_LW_law_237 (by decide) ?_ ?_
              · refine z_kc (by omega) (by omega) (z_sub [0, 1, 2, 3, 4] rfl (h1835 r1 r2 r3 x4 z2 D29))
              · refine z_kc (kc' := 0) (ks' := 0) (by omega) (by omega) ?_
                refine z_iconst (pc := 240) d_LW_law_240 ki_0 ?_
                exact z_lret (pc := 241) d_LW_law_241 rfl (by decide)
            · refine z_case (fun e3 => ?_) (fun e3 => ?_)
              · refine z_tableIn (pc := 40) (tgt := 242) d_LW_law_40 e3 (by decide) (by decide) rfl (by decide) ?_
                refine z_aload_n (pc := 242) d_LW_law_242 rfl 1 rfl ?_
                refine z_aload_n (pc := 243) d_LW_law_243 rfl 3 rfl ?_
                refine z_callH (pc := 244) (kc2 := (n23 * 1 + 0)) (ks2 := (n23 * 6 + 0)) [.ref r1, .ref r3] lkH_LW_115 (c_LW_load z2 D1 r1 r3) (by decide) (by omega) (by omega) rfl rfl (Nat.le_of_ble_eq_true rfl) d_LW_law_244 (fun v30 D31 z32 => ?_)
                refine z_istore (pc := 247) d_LW_law_247 (by decide) (lv' := [(5, .int v30), (0, .ref r0), (1, .ref r1), (2, .ref r2), (3, .ref r3), (4, .int x4)]) rfl ?_
                refine z_aload_n (pc := 249) d_LW_law_249 rfl 3 rfl ?_
                refine z_callVi (pc := 250) [] lkV_LW_118 rfl (c_MD_load z32 D31 r2 ) (by decide) rfl rfl (Nat.le_of_ble_eq_true rfl) d_LW_law_250 (fun v33 D34 => ?_)
                refine z_istore (pc := 253) d_LW_law_253 (by decide) (lv' := [(6, .int v33), (5, .int v30), (0, .ref r0), (1, .ref r1), (2, .ref r2), (3, .ref r3), (4, .int x4)]) rfl ?_
                refine z_aload_n (pc := 255) d_LW_law_255 rfl 4 rfl ?_
                refine z_callVi (pc := 256) [] lkV_LW_104 rfl (c_MD_thrown z32 D34 r2 ) (by decide) rfl rfl (Nat.le_of_ble_eq_true rfl) d_LW_law_256 (fun v35 D36 => ?_)
                refine z_iload (pc := 259) d_LW_law_259 1 rfl ?_
                refine z_icmp_eq (pc := 261) (tgt := 266) d_LW_law_261 (by decide) ?_ ?_
                · refine z_jp (fun j283 : Nat → Nat → Nat → Int32 → zW → zD → Option (Int32) => ∀ (r1 : Nat) (r2 : Nat) (r3 : Nat) (x4 : Int32) (z38 : zT) (D37 : zD), zGO K Y_LW_law 10 601024 7293034 zqL (j283 r1 r2 r3 x4 z38.2 D37) (n23 * 1 + 0) (n23 * 6 + 0) z38 D37 283 [(0, .ref r0), (1, .ref r1), (2, .ref r2), (3, .ref r3), (4, .int x4)] []) (fun r1 r2 r3 x4 z38 D37 => ?_) (fun j283 h283 => ?_)
                  · refine z_goto (pc := 283) (tgt := 1835) d_LW_law_283 (by decide) ?_
                    refine z_kc (by omega) (by omega) (z_sub [0, 1, 2, 3, 4] rfl (h1835 r1 r2 r3 x4 z38 D37))
                  · refine z_iload (pc := 266) d_LW_law_266 1 rfl ?_
                    refine z_if_ne (pc := 268) (tgt := 283) d_LW_law_268 (by decide) ?_ ?_
                    · refine z_aload_n (pc := 271) d_LW_law_271 rfl 5 rfl ?_
                      refine z_iconst (pc := 272) d_LW_law_272 ki_0 ?_
                      refine z_laload (pc := 273) d_LW_law_273 (fun v39 => ?_)
                      refine z_iload (pc := 274) d_LW_law_274 0 rfl ?_
                      refine z_i2l (pc := 276) d_LW_law_276 ?_
                      refine z_lcmp (pc := 277) d_LW_law_277 (fun v40 => ?_)
                      refine z_if_eq (pc := 278) (tgt := 283) d_LW_law_278 (by decide) ?_ ?_
                      · refine z_kc (by omega) (by omega) (z_sub [2, 3, 4, 5, 6] rfl (h283 r1 r2 r3 x4 z32 D36))
                      · refine z_kc (kc' := 0) (ks' := 0) (by omega) (by omega) ?_
                        refine z_iconst (pc := 281) d_LW_law_281 ki_0 ?_
                        exact z_lret (pc := 282) d_LW_law_282 rfl (by decide)
                    · refine z_kc (by omega) (by omega) (z_sub [2, 3, 4, 5, 6] rfl (h283 r1 r2 r3 x4 z32 D36))
                · refine z_kc (kc' := 0) (ks' := 0) (by omega) (by omega) ?_
                  refine z_iconst (pc := 264) d_LW_law_264 ki_0 ?_
                  exact z_lret (pc := 265) d_LW_law_265 rfl (by decide)
              · refine z_case (fun e4 => ?_) (fun e4 => ?_)
                · refine z_tableIn (pc := 40) (tgt := 286) d_LW_law_40 e4 (by decide) (by decide) rfl (by decide) ?_
                  refine z_aload_n (pc := 286) d_LW_law_286 rfl 1 rfl ?_
                  refine z_aload_n (pc := 287) d_LW_law_287 rfl 0 rfl ?_
                  refine z_iload (pc := 288) d_LW_law_288 4 rfl ?_
                  refine z_iconst (pc := 290) d_LW_law_290 ki_1 ?_
                  refine z_iadd (pc := 291) d_LW_law_291 ?_
                  refine z_ialoadR (pc := 292) d_LW_law_292 (fun v41 => ?_)
                  refine z_aload_n (pc := 293) d_LW_law_293 rfl 3 rfl ?_
                  refine z_callH (pc := 294) (kc2 := (n23 * 1 + 0)) (ks2 := (n23 * 6 + 0)) [.ref r1, .int v41, .ref r3] lkH_LW_119 (c_LW_about z2 D1 r1 v41 r3) (by decide) (by omega) (by omega) rfl rfl (Nat.le_of_ble_eq_true rfl) d_LW_law_294 (fun v42 D43 z44 => ?_)
                  refine z_istore (pc := 297) d_LW_law_297 (by decide) (lv' := [(5, .int v42), (0, .ref r0), (1, .ref r1), (2, .ref r2), (3, .ref r3), (4, .int x4)]) rfl ?_
                  refine z_aload_n (pc := 299) d_LW_law_299 rfl 3 rfl ?_
                  refine z_aload_n (pc := 300) d_LW_law_300 rfl 1 rfl ?_
                  refine z_iload (pc := 301) d_LW_law_301 5 rfl ?_
                  refine z_iconst (pc := 303) d_LW_law_303 ki_1 ?_
                  refine z_iadd (pc := 304) d_LW_law_304 ?_
                  refine z_ialoadR (pc := 305) d_LW_law_305 (fun v45 => ?_)
                  refine z_callVi (pc := 306) [.int v45] lkV_LW_121 rfl (c_MD_about z44 D43 r2 v45) (by decide) rfl rfl (Nat.le_of_ble_eq_true rfl) d_LW_law_306 (fun v46 D47 => ?_)
                  refine z_istore (pc := 309) d_LW_law_309 (by decide) (lv' := [(6, .int v46), (5, .int v42), (0, .ref r0), (1, .ref r1), (2, .ref r2), (3, .ref r3), (4, .int x4)]) rfl ?_
                  refine z_aload_n (pc := 311) d_LW_law_311 rfl 4 rfl ?_
                  refine z_callVi (pc := 312) [] lkV_LW_104 rfl (c_MD_thrown z44 D47 r2 ) (by decide) rfl rfl (Nat.le_of_ble_eq_true rfl) d_LW_law_312 (fun v48 D49 => ?_)
                  refine z_iload (pc := 315) d_LW_law_315 1 rfl ?_
                  refine z_icmp_eq (pc := 317) (tgt := 322) d_LW_law_317 (by decide) ?_ ?_
                  · refine z_jp (fun j339 : Nat → Nat → Nat → Int32 → zW → zD → Option (Int32) => ∀ (r1 : Nat) (r2 : Nat) (r3 : Nat) (x4 : Int32) (z51 : zT) (D50 : zD), zGO K Y_LW_law 10 601024 7293034 zqL (j339 r1 r2 r3 x4 z51.2 D50) (n23 * 1 + 0) (n23 * 6 + 0) z51 D50 339 [(0, .ref r0), (1, .ref r1), (2, .ref r2), (3, .ref r3), (4, .int x4)] []) (fun r1 r2 r3 x4 z51 D50 => ?_) (fun j339 h339 => ?_)
                    · refine z_goto (pc := 339) (tgt := 1835) d_LW_law_339 (by decide) ?_
                      refine z_kc (by omega) (by omega) (z_sub [0, 1, 2, 3, 4] rfl (h1835 r1 r2 r3 x4 z51 D50))
                    · refine z_iload (pc := 322) d_LW_law_322 1 rfl ?_
                      refine z_if_ne (pc := 324) (tgt := 339) d_LW_law_324 (by decide) ?_ ?_
                      · refine z_aload_n (pc := 327) d_LW_law_327 rfl 5 rfl ?_
                        refine z_iconst (pc := 328) d_LW_law_328 ki_0 ?_
                        refine z_laload (pc := 329) d_LW_law_329 (fun v52 => ?_)
                        refine z_iload (pc := 330) d_LW_law_330 0 rfl ?_
                        refine z_i2l (pc := 332) d_LW_law_332 ?_
                        refine z_lcmp (pc := 333) d_LW_law_333 (fun v53 => ?_)
                        refine z_if_eq (pc := 334) (tgt := 339) d_LW_law_334 (by decide) ?_ ?_
                        · refine z_kc (by omega) (by omega) (z_sub [2, 3, 4, 5, 6] rfl (h339 r1 r2 r3 x4 z44 D49))
                        · refine z_kc (kc' := 0) (ks' := 0) (by omega) (by omega) ?_
                          refine z_iconst (pc := 337) d_LW_law_337 ki_0 ?_
                          exact z_lret (pc := 338) d_LW_law_338 rfl (by decide)
                      · refine z_kc (by omega) (by omega) (z_sub [2, 3, 4, 5, 6] rfl (h339 r1 r2 r3 x4 z44 D49))
                  · refine z_kc (kc' := 0) (ks' := 0) (by omega) (by omega) ?_
                    refine z_iconst (pc := 320) d_LW_law_320 ki_0 ?_
                    exact z_lret (pc := 321) d_LW_law_321 rfl (by decide)
                · refine z_case (fun e5 => ?_) (fun e5 => ?_)
                  · refine z_tableIn (pc := 40) (tgt := 342) d_LW_law_40 e5 (by decide) (by decide) rfl (by decide) ?_
                    refine z_aload_n (pc := 342) d_LW_law_342 rfl 1 rfl ?_
                    refine z_aload_n (pc := 343) d_LW_law_343 rfl 0 rfl ?_
                    refine z_iload (pc := 344) d_LW_law_344 4 rfl ?_
                    refine z_iconst (pc := 346) d_LW_law_346 ki_1 ?_
                    refine z_iadd (pc := 347) d_LW_law_347 ?_
                    refine z_ialoadR (pc := 348) d_LW_law_348 (fun v54 => ?_)
                    refine z_aload_n (pc := 349) d_LW_law_349 rfl 0 rfl ?_
                    refine z_iload (pc := 350) d_LW_law_350 4 rfl ?_
                    refine z_iconst (pc := 352) d_LW_law_352 ki_2 ?_
                    refine z_iadd (pc := 353) d_LW_law_353 ?_
                    refine z_ialoadR (pc := 354) d_LW_law_354 (fun v55 => ?_)
                    refine z_aload_n (pc := 355) d_LW_law_355 rfl 3 rfl ?_
                    refine z_callH (pc := 356) (kc2 := (n23 * 1 + 0)) (ks2 := (n23 * 6 + 0)) [.ref r1, .int v54, .int v55, .ref r3] lkH_LW_122 (c_LW_sirenOf z2 D1 r1 v54 v55 r3) (by decide) (by omega) (by omega) rfl rfl (Nat.le_of_ble_eq_true rfl) d_LW_law_356 (fun v56 D57 z58 => ?_)
                    refine z_istore (pc := 359) d_LW_law_359 (by decide) (lv' := [(5, .int v56), (0, .ref r0), (1, .ref r1), (2, .ref r2), (3, .ref r3), (4, .int x4)]) rfl ?_
                    refine z_aload_n (pc := 361) d_LW_law_361 rfl 3 rfl ?_
                    refine z_aload_n (pc := 362) d_LW_law_362 rfl 1 rfl ?_
                    refine z_iload (pc := 363) d_LW_law_363 5 rfl ?_
                    refine z_iconst (pc := 365) d_LW_law_365 ki_1 ?_
                    refine z_iadd (pc := 366) d_LW_law_366 ?_
                    refine z_ialoadR (pc := 367) d_LW_law_367 (fun v59 => ?_)
                    refine z_aload_n (pc := 368) d_LW_law_368 rfl 1 rfl ?_
                    refine z_iload (pc := 369) d_LW_law_369 5 rfl ?_
                    refine z_iconst (pc := 371) d_LW_law_371 ki_2 ?_
                    refine z_iadd (pc := 372) d_LW_law_372 ?_
                    refine z_ialoadR (pc := 373) d_LW_law_373 (fun v60 => ?_)
                    refine z_callVi (pc := 374) [.int v59, .int v60] lkV_LW_125 rfl (c_MD_sirenOf z58 D57 r2 v59 v60) (by decide) rfl rfl (Nat.le_of_ble_eq_true rfl) d_LW_law_374 (fun v61 D62 => ?_)
                    refine z_istore (pc := 377) d_LW_law_377 (by decide) (lv' := [(6, .int v61), (5, .int v56), (0, .ref r0), (1, .ref r1), (2, .ref r2), (3, .ref r3), (4, .int x4)]) rfl ?_
                    refine z_aload_n (pc := 379) d_LW_law_379 rfl 4 rfl ?_
                    refine z_callVi (pc := 380) [] lkV_LW_104 rfl (c_MD_thrown z58 D62 r2 ) (by decide) rfl rfl (Nat.le_of_ble_eq_true rfl) d_LW_law_380 (fun v63 D64 => ?_)
                    refine z_iload (pc := 383) d_LW_law_383 1 rfl ?_
                    refine z_icmp_eq (pc := 385) (tgt := 390) d_LW_law_385 (by decide) ?_ ?_
                    · refine z_jp (fun j407 : Nat → Nat → Nat → Int32 → zW → zD → Option (Int32) => ∀ (r1 : Nat) (r2 : Nat) (r3 : Nat) (x4 : Int32) (z66 : zT) (D65 : zD), zGO K Y_LW_law 10 601024 7293034 zqL (j407 r1 r2 r3 x4 z66.2 D65) (n23 * 1 + 0) (n23 * 6 + 0) z66 D65 407 [(0, .ref r0), (1, .ref r1), (2, .ref r2), (3, .ref r3), (4, .int x4)] []) (fun r1 r2 r3 x4 z66 D65 => ?_) (fun j407 h407 => ?_)
                      · refine z_goto (pc := 407) (tgt := 1835) d_LW_law_407 (by decide) ?_
                        refine z_kc (by omega) (by omega) (z_sub [0, 1, 2, 3, 4] rfl (h1835 r1 r2 r3 x4 z66 D65))
                      · refine z_iload (pc := 390) d_LW_law_390 1 rfl ?_
                        refine z_if_ne (pc := 392) (tgt := 407) d_LW_law_392 (by decide) ?_ ?_
                        · refine z_aload_n (pc := 395) d_LW_law_395 rfl 5 rfl ?_
                          refine z_iconst (pc := 396) d_LW_law_396 ki_0 ?_
                          refine z_laload (pc := 397) d_LW_law_397 (fun v67 => ?_)
                          refine z_iload (pc := 398) d_LW_law_398 0 rfl ?_
                          refine z_i2l (pc := 400) d_LW_law_400 ?_
                          refine z_lcmp (pc := 401) d_LW_law_401 (fun v68 => ?_)
                          refine z_if_eq (pc := 402) (tgt := 407) d_LW_law_402 (by decide) ?_ ?_
                          · refine z_kc (by omega) (by omega) (z_sub [2, 3, 4, 5, 6] rfl (h407 r1 r2 r3 x4 z58 D64))
                          · refine z_kc (kc' := 0) (ks' := 0) (by omega) (by omega) ?_
                            refine z_iconst (pc := 405) d_LW_law_405 ki_0 ?_
                            exact z_lret (pc := 406) d_LW_law_406 rfl (by decide)
                        · refine z_kc (by omega) (by omega) (z_sub [2, 3, 4, 5, 6] rfl (h407 r1 r2 r3 x4 z58 D64))
                    · refine z_kc (kc' := 0) (ks' := 0) (by omega) (by omega) ?_
                      refine z_iconst (pc := 388) d_LW_law_388 ki_0 ?_
                      exact z_lret (pc := 389) d_LW_law_389 rfl (by decide)
                  · refine z_case (fun e6 => ?_) (fun e6 => ?_)
                    · refine z_tableIn (pc := 40) (tgt := 410) d_LW_law_40 e6 (by decide) (by decide) rfl (by decide) ?_
                      refine z_aload_n (pc := 410) d_LW_law_410 rfl 1 rfl ?_
                      refine z_aload_n (pc := 411) d_LW_law_411 rfl 0 rfl ?_
                      refine z_iload (pc := 412) d_LW_law_412 4 rfl ?_
                      refine z_iconst (pc := 414) d_LW_law_414 ki_1 ?_
                      refine z_iadd (pc := 415) d_LW_law_415 ?_
                      refine z_ialoadR (pc := 416) d_LW_law_416 (fun v69 => ?_)
                      refine z_aload_n (pc := 417) d_LW_law_417 rfl 0 rfl ?_
                      refine z_iload (pc := 418) d_LW_law_418 4 rfl ?_
                      refine z_iconst (pc := 420) d_LW_law_420 ki_2 ?_
                      refine z_iadd (pc := 421) d_LW_law_421 ?_
                      refine z_ialoadR (pc := 422) d_LW_law_422 (fun v70 => ?_)
                      refine z_aload_n (pc := 423) d_LW_law_423 rfl 3 rfl ?_
                      refine z_callH (pc := 424) (kc2 := (n23 * 1 + 0)) (ks2 := (n23 * 6 + 0)) [.ref r1, .int v69, .int v70, .ref r3] lkH_LW_126 (c_LW_hearerOf z2 D1 r1 v69 v70 r3) (by decide) (by omega) (by omega) rfl rfl (Nat.le_of_ble_eq_true rfl) d_LW_law_424 (fun v71 D72 z73 => ?_)
                      refine z_istore (pc := 427) d_LW_law_427 (by decide) (lv' := [(5, .int v71), (0, .ref r0), (1, .ref r1), (2, .ref r2), (3, .ref r3), (4, .int x4)]) rfl ?_
                      refine z_aload_n (pc := 429) d_LW_law_429 rfl 3 rfl ?_
                      refine z_aload_n (pc := 430) d_LW_law_430 rfl 1 rfl ?_
                      refine z_iload (pc := 431) d_LW_law_431 5 rfl ?_
                      refine z_iconst (pc := 433) d_LW_law_433 ki_1 ?_
                      refine z_iadd (pc := 434) d_LW_law_434 ?_
                      refine z_ialoadR (pc := 435) d_LW_law_435 (fun v74 => ?_)
                      refine z_aload_n (pc := 436) d_LW_law_436 rfl 1 rfl ?_
                      refine z_iload (pc := 437) d_LW_law_437 5 rfl ?_
                      refine z_iconst (pc := 439) d_LW_law_439 ki_2 ?_
                      refine z_iadd (pc := 440) d_LW_law_440 ?_
                      refine z_ialoadR (pc := 441) d_LW_law_441 (fun v75 => ?_)
                      refine z_callVi (pc := 442) [.int v74, .int v75] lkV_LW_128 rfl (c_MD_hearerOf z73 D72 r2 v74 v75) (by decide) rfl rfl (Nat.le_of_ble_eq_true rfl) d_LW_law_442 (fun v76 D77 => ?_)
                      refine z_istore (pc := 445) d_LW_law_445 (by decide) (lv' := [(6, .int v76), (5, .int v71), (0, .ref r0), (1, .ref r1), (2, .ref r2), (3, .ref r3), (4, .int x4)]) rfl ?_
                      refine z_aload_n (pc := 447) d_LW_law_447 rfl 4 rfl ?_
                      refine z_callVi (pc := 448) [] lkV_LW_104 rfl (c_MD_thrown z73 D77 r2 ) (by decide) rfl rfl (Nat.le_of_ble_eq_true rfl) d_LW_law_448 (fun v78 D79 => ?_)
                      refine z_iload (pc := 451) d_LW_law_451 1 rfl ?_
                      refine z_icmp_eq (pc := 453) (tgt := 458) d_LW_law_453 (by decide) ?_ ?_
                      · refine z_jp (fun j475 : Nat → Nat → Nat → Int32 → zW → zD → Option (Int32) => ∀ (r1 : Nat) (r2 : Nat) (r3 : Nat) (x4 : Int32) (z81 : zT) (D80 : zD), zGO K Y_LW_law 10 601024 7293034 zqL (j475 r1 r2 r3 x4 z81.2 D80) (n23 * 1 + 0) (n23 * 6 + 0) z81 D80 475 [(0, .ref r0), (1, .ref r1), (2, .ref r2), (3, .ref r3), (4, .int x4)] []) (fun r1 r2 r3 x4 z81 D80 => ?_) (fun j475 h475 => ?_)
                        · refine z_goto (pc := 475) (tgt := 1835) d_LW_law_475 (by decide) ?_
                          refine z_kc (by omega) (by omega) (z_sub [0, 1, 2, 3, 4] rfl (h1835 r1 r2 r3 x4 z81 D80))
                        · refine z_iload (pc := 458) d_LW_law_458 1 rfl ?_
                          refine z_if_ne (pc := 460) (tgt := 475) d_LW_law_460 (by decide) ?_ ?_
                          · refine z_aload_n (pc := 463) d_LW_law_463 rfl 5 rfl ?_
                            refine z_iconst (pc := 464) d_LW_law_464 ki_0 ?_
                            refine z_laload (pc := 465) d_LW_law_465 (fun v82 => ?_)
                            refine z_iload (pc := 466) d_LW_law_466 0 rfl ?_
                            refine z_i2l (pc := 468) d_LW_law_468 ?_
                            refine z_lcmp (pc := 469) d_LW_law_469 (fun v83 => ?_)
                            refine z_if_eq (pc := 470) (tgt := 475) d_LW_law_470 (by decide) ?_ ?_
                            · refine z_kc (by omega) (by omega) (z_sub [2, 3, 4, 5, 6] rfl (h475 r1 r2 r3 x4 z73 D79))
                            · refine z_kc (kc' := 0) (ks' := 0) (by omega) (by omega) ?_
                              refine z_iconst (pc := 473) d_LW_law_473 ki_0 ?_
                              exact z_lret (pc := 474) d_LW_law_474 rfl (by decide)
                          · refine z_kc (by omega) (by omega) (z_sub [2, 3, 4, 5, 6] rfl (h475 r1 r2 r3 x4 z73 D79))
                      · refine z_kc (kc' := 0) (ks' := 0) (by omega) (by omega) ?_
                        refine z_iconst (pc := 456) d_LW_law_456 ki_0 ?_
                        exact z_lret (pc := 457) d_LW_law_457 rfl (by decide)
                    · refine z_case (fun e7 => ?_) (fun e7 => ?_)
                      · refine z_tableIn (pc := 40) (tgt := 478) d_LW_law_40 e7 (by decide) (by decide) rfl (by decide) ?_
                        refine z_aload_n (pc := 478) d_LW_law_478 rfl 1 rfl ?_
                        refine z_aload_n (pc := 479) d_LW_law_479 rfl 0 rfl ?_
                        refine z_iload (pc := 480) d_LW_law_480 4 rfl ?_
                        refine z_iconst (pc := 482) d_LW_law_482 ki_1 ?_
                        refine z_iadd (pc := 483) d_LW_law_483 ?_
                        refine z_ialoadR (pc := 484) d_LW_law_484 (fun v84 => ?_)
                        refine z_aload_n (pc := 485) d_LW_law_485 rfl 0 rfl ?_
                        refine z_iload (pc := 486) d_LW_law_486 4 rfl ?_
                        refine z_iconst (pc := 488) d_LW_law_488 ki_2 ?_
                        refine z_iadd (pc := 489) d_LW_law_489 ?_
                        refine z_ialoadR (pc := 490) d_LW_law_490 (fun v85 => ?_)
                        refine z_aload_n (pc := 491) d_LW_law_491 rfl 3 rfl ?_
                        refine z_callH (pc := 492) (kc2 := (n23 * 1 + 0)) (ks2 := (n23 * 6 + 0)) [.ref r1, .int v84, .int v85, .ref r3] lkH_LW_129 (c_LW_wallOf z2 D1 r1 v84 v85 r3) (by decide) (by omega) (by omega) rfl rfl (Nat.le_of_ble_eq_true rfl) d_LW_law_492 (fun v86 D87 z88 => ?_)
                        refine z_istore (pc := 495) d_LW_law_495 (by decide) (lv' := [(5, .int v86), (0, .ref r0), (1, .ref r1), (2, .ref r2), (3, .ref r3), (4, .int x4)]) rfl ?_
                        refine z_aload_n (pc := 497) d_LW_law_497 rfl 3 rfl ?_
                        refine z_aload_n (pc := 498) d_LW_law_498 rfl 1 rfl ?_
                        refine z_iload (pc := 499) d_LW_law_499 5 rfl ?_
                        refine z_iconst (pc := 501) d_LW_law_501 ki_1 ?_
                        refine z_iadd (pc := 502) d_LW_law_502 ?_
                        refine z_ialoadR (pc := 503) d_LW_law_503 (fun v89 => ?_)
                        refine z_aload_n (pc := 504) d_LW_law_504 rfl 1 rfl ?_
                        refine z_iload (pc := 505) d_LW_law_505 5 rfl ?_
                        refine z_iconst (pc := 507) d_LW_law_507 ki_2 ?_
                        refine z_iadd (pc := 508) d_LW_law_508 ?_
                        refine z_ialoadR (pc := 509) d_LW_law_509 (fun v90 => ?_)
                        refine z_callVi (pc := 510) [.int v89, .int v90] lkV_LW_131 rfl (c_MD_wallOf z88 D87 r2 v89 v90) (by decide) rfl rfl (Nat.le_of_ble_eq_true rfl) d_LW_law_510 (fun v91 D92 => ?_)
                        refine z_istore (pc := 513) d_LW_law_513 (by decide) (lv' := [(6, .int v91), (5, .int v86), (0, .ref r0), (1, .ref r1), (2, .ref r2), (3, .ref r3), (4, .int x4)]) rfl ?_
                        refine z_aload_n (pc := 515) d_LW_law_515 rfl 4 rfl ?_
                        refine z_callVi (pc := 516) [] lkV_LW_104 rfl (c_MD_thrown z88 D92 r2 ) (by decide) rfl rfl (Nat.le_of_ble_eq_true rfl) d_LW_law_516 (fun v93 D94 => ?_)
                        refine z_iload (pc := 519) d_LW_law_519 1 rfl ?_
                        refine z_icmp_eq (pc := 521) (tgt := 526) d_LW_law_521 (by decide) ?_ ?_
                        · refine z_jp (fun j543 : Nat → Nat → Nat → Int32 → zW → zD → Option (Int32) => ∀ (r1 : Nat) (r2 : Nat) (r3 : Nat) (x4 : Int32) (z96 : zT) (D95 : zD), zGO K Y_LW_law 10 601024 7293034 zqL (j543 r1 r2 r3 x4 z96.2 D95) (n23 * 1 + 0) (n23 * 6 + 0) z96 D95 543 [(0, .ref r0), (1, .ref r1), (2, .ref r2), (3, .ref r3), (4, .int x4)] []) (fun r1 r2 r3 x4 z96 D95 => ?_) (fun j543 h543 => ?_)
                          · refine z_goto (pc := 543) (tgt := 1835) d_LW_law_543 (by decide) ?_
                            refine z_kc (by omega) (by omega) (z_sub [0, 1, 2, 3, 4] rfl (h1835 r1 r2 r3 x4 z96 D95))
                          · refine z_iload (pc := 526) d_LW_law_526 1 rfl ?_
                            refine z_if_ne (pc := 528) (tgt := 543) d_LW_law_528 (by decide) ?_ ?_
                            · refine z_aload_n (pc := 531) d_LW_law_531 rfl 5 rfl ?_
                              refine z_iconst (pc := 532) d_LW_law_532 ki_0 ?_
                              refine z_laload (pc := 533) d_LW_law_533 (fun v97 => ?_)
                              refine z_iload (pc := 534) d_LW_law_534 0 rfl ?_
                              refine z_i2l (pc := 536) d_LW_law_536 ?_
                              refine z_lcmp (pc := 537) d_LW_law_537 (fun v98 => ?_)
                              refine z_if_eq (pc := 538) (tgt := 543) d_LW_law_538 (by decide) ?_ ?_
                              · refine z_kc (by omega) (by omega) (z_sub [2, 3, 4, 5, 6] rfl (h543 r1 r2 r3 x4 z88 D94))
                              · refine z_kc (kc' := 0) (ks' := 0) (by omega) (by omega) ?_
                                refine z_iconst (pc := 541) d_LW_law_541 ki_0 ?_
                                exact z_lret (pc := 542) d_LW_law_542 rfl (by decide)
                            · refine z_kc (by omega) (by omega) (z_sub [2, 3, 4, 5, 6] rfl (h543 r1 r2 r3 x4 z88 D94))
                        · refine z_kc (kc' := 0) (ks' := 0) (by omega) (by omega) ?_
                          refine z_iconst (pc := 524) d_LW_law_524 ki_0 ?_
                          exact z_lret (pc := 525) d_LW_law_525 rfl (by decide)
                      · refine z_case (fun e8 => ?_) (fun e8 => ?_)
                        · refine z_tableIn (pc := 40) (tgt := 546) d_LW_law_40 e8 (by decide) (by decide) rfl (by decide) ?_
                          refine z_aload_n (pc := 546) d_LW_law_546 rfl 1 rfl ?_
                          refine z_aload_n (pc := 547) d_LW_law_547 rfl 0 rfl ?_
                          refine z_iload (pc := 548) d_LW_law_548 4 rfl ?_
                          refine z_iconst (pc := 550) d_LW_law_550 ki_1 ?_
                          refine z_iadd (pc := 551) d_LW_law_551 ?_
                          refine z_ialoadR (pc := 552) d_LW_law_552 (fun v99 => ?_)
                          refine z_aload_n (pc := 553) d_LW_law_553 rfl 0 rfl ?_
                          refine z_iload (pc := 554) d_LW_law_554 4 rfl ?_
                          refine z_iconst (pc := 556) d_LW_law_556 ki_2 ?_
                          refine z_iadd (pc := 557) d_LW_law_557 ?_
                          refine z_ialoadR (pc := 558) d_LW_law_558 (fun v100 => ?_)
                          refine z_aload_n (pc := 559) d_LW_law_559 rfl 3 rfl ?_
                          refine z_callH (pc := 560) (kc2 := (n23 * 1 + 0)) (ks2 := (n23 * 6 + 0)) [.ref r1, .int v99, .int v100, .ref r3] lkH_LW_132 (c_LW_pulse z2 D1 r1 v99 v100 r3) (by decide) (by omega) (by omega) rfl rfl (Nat.le_of_ble_eq_true rfl) d_LW_law_560 (fun v101 D102 z103 => ?_)
                          refine z_istore (pc := 563) d_LW_law_563 (by decide) (lv' := [(5, .int v101), (0, .ref r0), (1, .ref r1), (2, .ref r2), (3, .ref r3), (4, .int x4)]) rfl ?_
                          refine z_aload_n (pc := 565) d_LW_law_565 rfl 3 rfl ?_
                          refine z_aload_n (pc := 566) d_LW_law_566 rfl 1 rfl ?_
                          refine z_iload (pc := 567) d_LW_law_567 5 rfl ?_
                          refine z_iconst (pc := 569) d_LW_law_569 ki_1 ?_
                          refine z_iadd (pc := 570) d_LW_law_570 ?_
                          refine z_ialoadR (pc := 571) d_LW_law_571 (fun v104 => ?_)
                          refine z_aload_n (pc := 572) d_LW_law_572 rfl 1 rfl ?_
                          refine z_iload (pc := 573) d_LW_law_573 5 rfl ?_
                          refine z_iconst (pc := 575) d_LW_law_575 ki_2 ?_
                          refine z_iadd (pc := 576) d_LW_law_576 ?_
                          refine z_ialoadR (pc := 577) d_LW_law_577 (fun v105 => ?_)
                          refine z_callVi (pc := 578) [.int v104, .int v105] lkV_LW_134 rfl (c_MD_pulse z103 D102 r2 v104 v105) (by decide) rfl rfl (Nat.le_of_ble_eq_true rfl) d_LW_law_578 (fun v106 D107 => ?_)
                          refine z_istore (pc := 581) d_LW_law_581 (by decide) (lv' := [(6, .int v106), (5, .int v101), (0, .ref r0), (1, .ref r1), (2, .ref r2), (3, .ref r3), (4, .int x4)]) rfl ?_
                          refine z_aload_n (pc := 583) d_LW_law_583 rfl 4 rfl ?_
                          refine z_callVi (pc := 584) [] lkV_LW_104 rfl (c_MD_thrown z103 D107 r2 ) (by decide) rfl rfl (Nat.le_of_ble_eq_true rfl) d_LW_law_584 (fun v108 D109 => ?_)
                          refine z_iload (pc := 587) d_LW_law_587 1 rfl ?_
                          refine z_icmp_eq (pc := 589) (tgt := 594) d_LW_law_589 (by decide) ?_ ?_
                          · refine z_jp (fun j611 : Nat → Nat → Nat → Int32 → zW → zD → Option (Int32) => ∀ (r1 : Nat) (r2 : Nat) (r3 : Nat) (x4 : Int32) (z111 : zT) (D110 : zD), zGO K Y_LW_law 10 601024 7293034 zqL (j611 r1 r2 r3 x4 z111.2 D110) (n23 * 1 + 0) (n23 * 6 + 0) z111 D110 611 [(0, .ref r0), (1, .ref r1), (2, .ref r2), (3, .ref r3), (4, .int x4)] []) (fun r1 r2 r3 x4 z111 D110 => ?_) (fun j611 h611 => ?_)
                            · refine z_goto (pc := 611) (tgt := 1835) d_LW_law_611 (by decide) ?_
                              refine z_kc (by omega) (by omega) (z_sub [0, 1, 2, 3, 4] rfl (h1835 r1 r2 r3 x4 z111 D110))
                            · refine z_iload (pc := 594) d_LW_law_594 1 rfl ?_
                              refine z_if_ne (pc := 596) (tgt := 611) d_LW_law_596 (by decide) ?_ ?_
                              · refine z_aload_n (pc := 599) d_LW_law_599 rfl 5 rfl ?_
                                refine z_iconst (pc := 600) d_LW_law_600 ki_0 ?_
                                refine z_laload (pc := 601) d_LW_law_601 (fun v112 => ?_)
                                refine z_iload (pc := 602) d_LW_law_602 0 rfl ?_
                                refine z_i2l (pc := 604) d_LW_law_604 ?_
                                refine z_lcmp (pc := 605) d_LW_law_605 (fun v113 => ?_)
                                refine z_if_eq (pc := 606) (tgt := 611) d_LW_law_606 (by decide) ?_ ?_
                                · refine z_kc (by omega) (by omega) (z_sub [2, 3, 4, 5, 6] rfl (h611 r1 r2 r3 x4 z103 D109))
                                · refine z_kc (kc' := 0) (ks' := 0) (by omega) (by omega) ?_
                                  refine z_iconst (pc := 609) d_LW_law_609 ki_0 ?_
                                  exact z_lret (pc := 610) d_LW_law_610 rfl (by decide)
                              · refine z_kc (by omega) (by omega) (z_sub [2, 3, 4, 5, 6] rfl (h611 r1 r2 r3 x4 z103 D109))
                          · refine z_kc (kc' := 0) (ks' := 0) (by omega) (by omega) ?_
                            refine z_iconst (pc := 592) d_LW_law_592 ki_0 ?_
                            exact z_lret (pc := 593) d_LW_law_593 rfl (by decide)
                        · refine z_case (fun e9 => ?_) (fun e9 => ?_)
                          · refine z_tableIn (pc := 40) (tgt := 614) d_LW_law_40 e9 (by decide) (by decide) rfl (by decide) ?_
                            refine z_aload_n (pc := 614) d_LW_law_614 rfl 1 rfl ?_
                            refine z_aload_n (pc := 615) d_LW_law_615 rfl 0 rfl ?_
                            refine z_iload (pc := 616) d_LW_law_616 4 rfl ?_
                            refine z_iconst (pc := 618) d_LW_law_618 ki_1 ?_
                            refine z_iadd (pc := 619) d_LW_law_619 ?_
                            refine z_ialoadR (pc := 620) d_LW_law_620 (fun v114 => ?_)
                            refine z_aload_n (pc := 621) d_LW_law_621 rfl 0 rfl ?_
                            refine z_iload (pc := 622) d_LW_law_622 4 rfl ?_
                            refine z_iconst (pc := 624) d_LW_law_624 ki_2 ?_
                            refine z_iadd (pc := 625) d_LW_law_625 ?_
                            refine z_ialoadR (pc := 626) d_LW_law_626 (fun v115 => ?_)
                            refine z_aload_n (pc := 627) d_LW_law_627 rfl 0 rfl ?_
                            refine z_iload (pc := 628) d_LW_law_628 4 rfl ?_
                            refine z_iconst (pc := 630) d_LW_law_630 ki_3 ?_
                            refine z_iadd (pc := 631) d_LW_law_631 ?_
                            refine z_ialoadR (pc := 632) d_LW_law_632 (fun v116 => ?_)
                            refine z_aload_n (pc := 633) d_LW_law_633 rfl 3 rfl ?_
                            refine z_callH (pc := 634) (kc2 := (n23 * 1 + 0)) (ks2 := (n23 * 6 + 0)) [.ref r1, .int v114, .int v115, .int v116, .ref r3] lkH_LW_135 (c_LW_heard z2 D1 r1 v114 v115 v116 r3) (by decide) (by omega) (by omega) rfl rfl (Nat.le_of_ble_eq_true rfl) d_LW_law_634 (fun v117 D118 z119 => ?_)
                            refine z_istore (pc := 637) d_LW_law_637 (by decide) (lv' := [(5, .int v117), (0, .ref r0), (1, .ref r1), (2, .ref r2), (3, .ref r3), (4, .int x4)]) rfl ?_
                            refine z_aload_n (pc := 639) d_LW_law_639 rfl 3 rfl ?_
                            refine z_aload_n (pc := 640) d_LW_law_640 rfl 1 rfl ?_
                            refine z_iload (pc := 641) d_LW_law_641 5 rfl ?_
                            refine z_iconst (pc := 643) d_LW_law_643 ki_1 ?_
                            refine z_iadd (pc := 644) d_LW_law_644 ?_
                            refine z_ialoadR (pc := 645) d_LW_law_645 (fun v120 => ?_)
                            refine z_aload_n (pc := 646) d_LW_law_646 rfl 1 rfl ?_
                            refine z_iload (pc := 647) d_LW_law_647 5 rfl ?_
                            refine z_iconst (pc := 649) d_LW_law_649 ki_2 ?_
                            refine z_iadd (pc := 650) d_LW_law_650 ?_
                            refine z_ialoadR (pc := 651) d_LW_law_651 (fun v121 => ?_)
                            refine z_aload_n (pc := 652) d_LW_law_652 rfl 1 rfl ?_
                            refine z_iload (pc := 653) d_LW_law_653 5 rfl ?_
                            refine z_iconst (pc := 655) d_LW_law_655 ki_3 ?_
                            refine z_iadd (pc := 656) d_LW_law_656 ?_
                            refine z_ialoadR (pc := 657) d_LW_law_657 (fun v122 => ?_)
                            refine z_callVi (pc := 658) [.int v120, .int v121, .int v122] lkV_LW_138 rfl (c_MD_heard z119 D118 r2 v120 v121 v122) (by decide) rfl rfl (Nat.le_of_ble_eq_true rfl) d_LW_law_658 (fun v123 D124 => ?_)
                            refine z_istore (pc := 661) d_LW_law_661 (by decide) (lv' := [(6, .int v123), (5, .int v117), (0, .ref r0), (1, .ref r1), (2, .ref r2), (3, .ref r3), (4, .int x4)]) rfl ?_
                            refine z_aload_n (pc := 663) d_LW_law_663 rfl 4 rfl ?_
                            refine z_callVi (pc := 664) [] lkV_LW_104 rfl (c_MD_thrown z119 D124 r2 ) (by decide) rfl rfl (Nat.le_of_ble_eq_true rfl) d_LW_law_664 (fun v125 D126 => ?_)
                            refine z_iload (pc := 667) d_LW_law_667 1 rfl ?_
                            refine z_icmp_eq (pc := 669) (tgt := 674) d_LW_law_669 (by decide) ?_ ?_
                            · refine z_jp (fun j691 : Nat → Nat → Nat → Int32 → zW → zD → Option (Int32) => ∀ (r1 : Nat) (r2 : Nat) (r3 : Nat) (x4 : Int32) (z128 : zT) (D127 : zD), zGO K Y_LW_law 10 601024 7293034 zqL (j691 r1 r2 r3 x4 z128.2 D127) (n23 * 1 + 0) (n23 * 6 + 0) z128 D127 691 [(0, .ref r0), (1, .ref r1), (2, .ref r2), (3, .ref r3), (4, .int x4)] []) (fun r1 r2 r3 x4 z128 D127 => ?_) (fun j691 h691 => ?_)
                              · refine z_goto (pc := 691) (tgt := 1835) d_LW_law_691 (by decide) ?_
                                refine z_kc (by omega) (by omega) (z_sub [0, 1, 2, 3, 4] rfl (h1835 r1 r2 r3 x4 z128 D127))
                              · refine z_iload (pc := 674) d_LW_law_674 1 rfl ?_
                                refine z_if_ne (pc := 676) (tgt := 691) d_LW_law_676 (by decide) ?_ ?_
                                · refine z_aload_n (pc := 679) d_LW_law_679 rfl 5 rfl ?_
                                  refine z_iconst (pc := 680) d_LW_law_680 ki_0 ?_
                                  refine z_laload (pc := 681) d_LW_law_681 (fun v129 => ?_)
                                  refine z_iload (pc := 682) d_LW_law_682 0 rfl ?_
                                  refine z_i2l (pc := 684) d_LW_law_684 ?_
                                  refine z_lcmp (pc := 685) d_LW_law_685 (fun v130 => ?_)
                                  refine z_if_eq (pc := 686) (tgt := 691) d_LW_law_686 (by decide) ?_ ?_
                                  · refine z_kc (by omega) (by omega) (z_sub [2, 3, 4, 5, 6] rfl (h691 r1 r2 r3 x4 z119 D126))
                                  · refine z_kc (kc' := 0) (ks' := 0) (by omega) (by omega) ?_
                                    refine z_iconst (pc := 689) d_LW_law_689 ki_0 ?_
                                    exact z_lret (pc := 690) d_LW_law_690 rfl (by decide)
                                · refine z_kc (by omega) (by omega) (z_sub [2, 3, 4, 5, 6] rfl (h691 r1 r2 r3 x4 z119 D126))
                            · refine z_kc (kc' := 0) (ks' := 0) (by omega) (by omega) ?_
                              refine z_iconst (pc := 672) d_LW_law_672 ki_0 ?_
                              exact z_lret (pc := 673) d_LW_law_673 rfl (by decide)
                          · refine z_case (fun e10 => ?_) (fun e10 => ?_)
                            · refine z_tableIn (pc := 40) (tgt := 694) d_LW_law_40 e10 (by decide) (by decide) rfl (by decide) ?_
                              refine z_aload_n (pc := 694) d_LW_law_694 rfl 1 rfl ?_
                              refine z_aload_n (pc := 695) d_LW_law_695 rfl 0 rfl ?_
                              refine z_iload (pc := 696) d_LW_law_696 4 rfl ?_
                              refine z_iconst (pc := 698) d_LW_law_698 ki_1 ?_
                              refine z_iadd (pc := 699) d_LW_law_699 ?_
                              refine z_ialoadR (pc := 700) d_LW_law_700 (fun v131 => ?_)
                              refine z_aload_n (pc := 701) d_LW_law_701 rfl 0 rfl ?_
                              refine z_iload (pc := 702) d_LW_law_702 4 rfl ?_
                              refine z_iconst (pc := 704) d_LW_law_704 ki_2 ?_
                              refine z_iadd (pc := 705) d_LW_law_705 ?_
                              refine z_ialoadR (pc := 706) d_LW_law_706 (fun v132 => ?_)
                              refine z_aload_n (pc := 707) d_LW_law_707 rfl 0 rfl ?_
                              refine z_iload (pc := 708) d_LW_law_708 4 rfl ?_
                              refine z_iconst (pc := 710) d_LW_law_710 ki_3 ?_
                              refine z_iadd (pc := 711) d_LW_law_711 ?_
                              refine z_ialoadR (pc := 712) d_LW_law_712 (fun v133 => ?_)
                              refine z_aload_n (pc := 713) d_LW_law_713 rfl 0 rfl ?_
                              refine z_iload (pc := 714) d_LW_law_714 4 rfl ?_
                              refine z_iconst (pc := 716) d_LW_law_716 ki_4 ?_
                              refine z_iadd (pc := 717) d_LW_law_717 ?_
                              refine z_ialoadR (pc := 718) d_LW_law_718 (fun v134 => ?_)
                              refine z_aload_n (pc := 719) d_LW_law_719 rfl 0 rfl ?_
                              refine z_iload (pc := 720) d_LW_law_720 4 rfl ?_
                              refine z_iconst (pc := 722) d_LW_law_722 ki_5 ?_
                              refine z_iadd (pc := 723) d_LW_law_723 ?_
                              refine z_ialoadR (pc := 724) d_LW_law_724 (fun v135 => ?_)
                              refine z_aload_n (pc := 725) d_LW_law_725 rfl 3 rfl ?_
                              refine z_callH (pc := 726) (kc2 := (n23 * 1 + 0)) (ks2 := (n23 * 6 + 0)) [.ref r1, .int v131, .int v132, .int v133, .int v134, .int v135, .ref r3] lkH_LW_139 (c_LW_siren z2 D1 r1 v131 v132 v133 v134 v135 r3) (by decide) (by omega) (by omega) rfl rfl (Nat.le_of_ble_eq_true rfl) d_LW_law_726 (fun v136 D137 z138 => ?_)
                              refine z_istore (pc := 729) d_LW_law_729 (by decide) (lv' := [(5, .int v136), (0, .ref r0), (1, .ref r1), (2, .ref r2), (3, .ref r3), (4, .int x4)]) rfl ?_
                              refine z_aload_n (pc := 731) d_LW_law_731 rfl 3 rfl ?_
                              refine z_aload_n (pc := 732) d_LW_law_732 rfl 1 rfl ?_
                              refine z_iload (pc := 733) d_LW_law_733 5 rfl ?_
                              refine z_iconst (pc := 735) d_LW_law_735 ki_1 ?_
                              refine z_iadd (pc := 736) d_LW_law_736 ?_
                              refine z_ialoadR (pc := 737) d_LW_law_737 (fun v139 => ?_)
                              refine z_aload_n (pc := 738) d_LW_law_738 rfl 1 rfl ?_
                              refine z_iload (pc := 739) d_LW_law_739 5 rfl ?_
                              refine z_iconst (pc := 741) d_LW_law_741 ki_2 ?_
                              refine z_iadd (pc := 742) d_LW_law_742 ?_
                              refine z_ialoadR (pc := 743) d_LW_law_743 (fun v140 => ?_)
                              refine z_aload_n (pc := 744) d_LW_law_744 rfl 1 rfl ?_
                              refine z_iload (pc := 745) d_LW_law_745 5 rfl ?_
                              refine z_iconst (pc := 747) d_LW_law_747 ki_3 ?_
                              refine z_iadd (pc := 748) d_LW_law_748 ?_
                              refine z_ialoadR (pc := 749) d_LW_law_749 (fun v141 => ?_)
                              refine z_aload_n (pc := 750) d_LW_law_750 rfl 1 rfl ?_
                              refine z_iload (pc := 751) d_LW_law_751 5 rfl ?_
                              refine z_iconst (pc := 753) d_LW_law_753 ki_4 ?_
                              refine z_iadd (pc := 754) d_LW_law_754 ?_
                              refine z_ialoadR (pc := 755) d_LW_law_755 (fun v142 => ?_)
                              refine z_aload_n (pc := 756) d_LW_law_756 rfl 1 rfl ?_
                              refine z_iload (pc := 757) d_LW_law_757 5 rfl ?_
                              refine z_iconst (pc := 759) d_LW_law_759 ki_5 ?_
                              refine z_iadd (pc := 760) d_LW_law_760 ?_
                              refine z_ialoadR (pc := 761) d_LW_law_761 (fun v143 => ?_)
                              refine z_callVi (pc := 762) [.int v139, .int v140, .int v141, .int v142, .int v143] lkV_LW_142 rfl (c_MD_siren z138 D137 r2 v139 v140 v141 v142 v143) (by decide) rfl rfl (Nat.le_of_ble_eq_true rfl) d_LW_law_762 (fun v144 D145 => ?_)
                              refine z_istore (pc := 765) d_LW_law_765 (by decide) (lv' := [(6, .int v144), (5, .int v136), (0, .ref r0), (1, .ref r1), (2, .ref r2), (3, .ref r3), (4, .int x4)]) rfl ?_
                              refine z_aload_n (pc := 767) d_LW_law_767 rfl 4 rfl ?_
                              refine z_callVi (pc := 768) [] lkV_LW_104 rfl (c_MD_thrown z138 D145 r2 ) (by decide) rfl rfl (Nat.le_of_ble_eq_true rfl) d_LW_law_768 (fun v146 D147 => ?_)
                              refine z_iload (pc := 771) d_LW_law_771 1 rfl ?_
                              refine z_icmp_eq (pc := 773) (tgt := 778) d_LW_law_773 (by decide) ?_ ?_
                              · refine z_jp (fun j795 : Nat → Nat → Nat → Int32 → zW → zD → Option (Int32) => ∀ (r1 : Nat) (r2 : Nat) (r3 : Nat) (x4 : Int32) (z149 : zT) (D148 : zD), zGO K Y_LW_law 10 601024 7293034 zqL (j795 r1 r2 r3 x4 z149.2 D148) (n23 * 1 + 0) (n23 * 6 + 0) z149 D148 795 [(0, .ref r0), (1, .ref r1), (2, .ref r2), (3, .ref r3), (4, .int x4)] []) (fun r1 r2 r3 x4 z149 D148 => ?_) (fun j795 h795 => ?_)
                                · refine z_goto (pc := 795) (tgt := 1835) d_LW_law_795 (by decide) ?_
                                  refine z_kc (by omega) (by omega) (z_sub [0, 1, 2, 3, 4] rfl (h1835 r1 r2 r3 x4 z149 D148))
                                · refine z_iload (pc := 778) d_LW_law_778 1 rfl ?_
                                  refine z_if_ne (pc := 780) (tgt := 795) d_LW_law_780 (by decide) ?_ ?_
                                  · refine z_aload_n (pc := 783) d_LW_law_783 rfl 5 rfl ?_
                                    refine z_iconst (pc := 784) d_LW_law_784 ki_0 ?_
                                    refine z_laload (pc := 785) d_LW_law_785 (fun v150 => ?_)
                                    refine z_iload (pc := 786) d_LW_law_786 0 rfl ?_
                                    refine z_i2l (pc := 788) d_LW_law_788 ?_
                                    refine z_lcmp (pc := 789) d_LW_law_789 (fun v151 => ?_)
                                    refine z_if_eq (pc := 790) (tgt := 795) d_LW_law_790 (by decide) ?_ ?_
                                    · refine z_kc (by omega) (by omega) (z_sub [2, 3, 4, 5, 6] rfl (h795 r1 r2 r3 x4 z138 D147))
                                    · refine z_kc (kc' := 0) (ks' := 0) (by omega) (by omega) ?_
                                      refine z_iconst (pc := 793) d_LW_law_793 ki_0 ?_
                                      exact z_lret (pc := 794) d_LW_law_794 rfl (by decide)
                                  · refine z_kc (by omega) (by omega) (z_sub [2, 3, 4, 5, 6] rfl (h795 r1 r2 r3 x4 z138 D147))
                              · refine z_kc (kc' := 0) (ks' := 0) (by omega) (by omega) ?_
                                refine z_iconst (pc := 776) d_LW_law_776 ki_0 ?_
                                exact z_lret (pc := 777) d_LW_law_777 rfl (by decide)
                            · refine z_case (fun e11 => ?_) (fun e11 => ?_)
                              · refine z_tableIn (pc := 40) (tgt := 798) d_LW_law_40 e11 (by decide) (by decide) rfl (by decide) ?_
                                refine z_aload_n (pc := 798) d_LW_law_798 rfl 1 rfl ?_
                                refine z_aload_n (pc := 799) d_LW_law_799 rfl 0 rfl ?_
                                refine z_iload (pc := 800) d_LW_law_800 4 rfl ?_
                                refine z_iconst (pc := 802) d_LW_law_802 ki_1 ?_
                                refine z_iadd (pc := 803) d_LW_law_803 ?_
                                refine z_ialoadR (pc := 804) d_LW_law_804 (fun v152 => ?_)
                                refine z_aload_n (pc := 805) d_LW_law_805 rfl 0 rfl ?_
                                refine z_iload (pc := 806) d_LW_law_806 4 rfl ?_
                                refine z_iconst (pc := 808) d_LW_law_808 ki_2 ?_
                                refine z_iadd (pc := 809) d_LW_law_809 ?_
                                refine z_ialoadR (pc := 810) d_LW_law_810 (fun v153 => ?_)
                                refine z_aload_n (pc := 811) d_LW_law_811 rfl 0 rfl ?_
                                refine z_iload (pc := 812) d_LW_law_812 4 rfl ?_
                                refine z_iconst (pc := 814) d_LW_law_814 ki_3 ?_
                                refine z_iadd (pc := 815) d_LW_law_815 ?_
                                refine z_ialoadR (pc := 816) d_LW_law_816 (fun v154 => ?_)
                                refine z_aload_n (pc := 817) d_LW_law_817 rfl 0 rfl ?_
                                refine z_iload (pc := 818) d_LW_law_818 4 rfl ?_
                                refine z_iconst (pc := 820) d_LW_law_820 ki_4 ?_
                                refine z_iadd (pc := 821) d_LW_law_821 ?_
                                refine z_ialoadR (pc := 822) d_LW_law_822 (fun v155 => ?_)
                                refine z_aload_n (pc := 823) d_LW_law_823 rfl 3 rfl ?_
                                refine z_callH (pc := 824) (kc2 := (n23 * 1 + 0)) (ks2 := (n23 * 6 + 0)) [.ref r1, .int v152, .int v153, .int v154, .int v155, .ref r3] lkH_LW_143 (c_LW_hearer z2 D1 r1 v152 v153 v154 v155 r3) (by decide) (by omega) (by omega) rfl rfl (Nat.le_of_ble_eq_true rfl) d_LW_law_824 (fun v156 D157 z158 => ?_)
                                refine z_istore (pc := 827) d_LW_law_827 (by decide) (lv' := [(5, .int v156), (0, .ref r0), (1, .ref r1), (2, .ref r2), (3, .ref r3), (4, .int x4)]) rfl ?_
                                refine z_aload_n (pc := 829) d_LW_law_829 rfl 3 rfl ?_
                                refine z_aload_n (pc := 830) d_LW_law_830 rfl 1 rfl ?_
                                refine z_iload (pc := 831) d_LW_law_831 5 rfl ?_
                                refine z_iconst (pc := 833) d_LW_law_833 ki_1 ?_
                                refine z_iadd (pc := 834) d_LW_law_834 ?_
                                refine z_ialoadR (pc := 835) d_LW_law_835 (fun v159 => ?_)
                                refine z_aload_n (pc := 836) d_LW_law_836 rfl 1 rfl ?_
                                refine z_iload (pc := 837) d_LW_law_837 5 rfl ?_
                                refine z_iconst (pc := 839) d_LW_law_839 ki_2 ?_
                                refine z_iadd (pc := 840) d_LW_law_840 ?_
                                refine z_ialoadR (pc := 841) d_LW_law_841 (fun v160 => ?_)
                                refine z_aload_n (pc := 842) d_LW_law_842 rfl 1 rfl ?_
                                refine z_iload (pc := 843) d_LW_law_843 5 rfl ?_
                                refine z_iconst (pc := 845) d_LW_law_845 ki_3 ?_
                                refine z_iadd (pc := 846) d_LW_law_846 ?_
                                refine z_ialoadR (pc := 847) d_LW_law_847 (fun v161 => ?_)
                                refine z_aload_n (pc := 848) d_LW_law_848 rfl 1 rfl ?_
                                refine z_iload (pc := 849) d_LW_law_849 5 rfl ?_
                                refine z_iconst (pc := 851) d_LW_law_851 ki_4 ?_
                                refine z_iadd (pc := 852) d_LW_law_852 ?_
                                refine z_ialoadR (pc := 853) d_LW_law_853 (fun v162 => ?_)
                                refine z_callVi (pc := 854) [.int v159, .int v160, .int v161, .int v162] lkV_LW_146 rfl (c_MD_hearer z158 D157 r2 v159 v160 v161 v162) (by decide) rfl rfl (Nat.le_of_ble_eq_true rfl) d_LW_law_854 (fun v163 D164 => ?_)
                                refine z_istore (pc := 857) d_LW_law_857 (by decide) (lv' := [(6, .int v163), (5, .int v156), (0, .ref r0), (1, .ref r1), (2, .ref r2), (3, .ref r3), (4, .int x4)]) rfl ?_
                                refine z_aload_n (pc := 859) d_LW_law_859 rfl 4 rfl ?_
                                refine z_callVi (pc := 860) [] lkV_LW_104 rfl (c_MD_thrown z158 D164 r2 ) (by decide) rfl rfl (Nat.le_of_ble_eq_true rfl) d_LW_law_860 (fun v165 D166 => ?_)
                                refine z_iload (pc := 863) d_LW_law_863 1 rfl ?_
                                refine z_icmp_eq (pc := 865) (tgt := 870) d_LW_law_865 (by decide) ?_ ?_
                                · refine z_jp (fun j887 : Nat → Nat → Nat → Int32 → zW → zD → Option (Int32) => ∀ (r1 : Nat) (r2 : Nat) (r3 : Nat) (x4 : Int32) (z168 : zT) (D167 : zD), zGO K Y_LW_law 10 601024 7293034 zqL (j887 r1 r2 r3 x4 z168.2 D167) (n23 * 1 + 0) (n23 * 6 + 0) z168 D167 887 [(0, .ref r0), (1, .ref r1), (2, .ref r2), (3, .ref r3), (4, .int x4)] []) (fun r1 r2 r3 x4 z168 D167 => ?_) (fun j887 h887 => ?_)
                                  · refine z_goto (pc := 887) (tgt := 1835) d_LW_law_887 (by decide) ?_
                                    refine z_kc (by omega) (by omega) (z_sub [0, 1, 2, 3, 4] rfl (h1835 r1 r2 r3 x4 z168 D167))
                                  · refine z_iload (pc := 870) d_LW_law_870 1 rfl ?_
                                    refine z_if_ne (pc := 872) (tgt := 887) d_LW_law_872 (by decide) ?_ ?_
                                    · refine z_aload_n (pc := 875) d_LW_law_875 rfl 5 rfl ?_
                                      refine z_iconst (pc := 876) d_LW_law_876 ki_0 ?_
                                      refine z_laload (pc := 877) d_LW_law_877 (fun v169 => ?_)
                                      refine z_iload (pc := 878) d_LW_law_878 0 rfl ?_
                                      refine z_i2l (pc := 880) d_LW_law_880 ?_
                                      refine z_lcmp (pc := 881) d_LW_law_881 (fun v170 => ?_)
                                      refine z_if_eq (pc := 882) (tgt := 887) d_LW_law_882 (by decide) ?_ ?_
                                      · refine z_kc (by omega) (by omega) (z_sub [2, 3, 4, 5, 6] rfl (h887 r1 r2 r3 x4 z158 D166))
                                      · refine z_kc (kc' := 0) (ks' := 0) (by omega) (by omega) ?_
                                        refine z_iconst (pc := 885) d_LW_law_885 ki_0 ?_
                                        exact z_lret (pc := 886) d_LW_law_886 rfl (by decide)
                                    · refine z_kc (by omega) (by omega) (z_sub [2, 3, 4, 5, 6] rfl (h887 r1 r2 r3 x4 z158 D166))
                                · refine z_kc (kc' := 0) (ks' := 0) (by omega) (by omega) ?_
                                  refine z_iconst (pc := 868) d_LW_law_868 ki_0 ?_
                                  exact z_lret (pc := 869) d_LW_law_869 rfl (by decide)
                              · refine z_case (fun e12 => ?_) (fun e12 => ?_)
                                · refine z_tableIn (pc := 40) (tgt := 890) d_LW_law_40 e12 (by decide) (by decide) rfl (by decide) ?_
                                  refine z_jp (fun j905 : Nat → Nat → Nat → Int32 → Nat → Int32 → zW → zD → Option (Int32) => ∀ (r1 : Nat) (r2 : Nat) (r3 : Nat) (x4 : Int32) (s0 : Nat) (s1 : Int32) (z172 : zT) (D171 : zD), zGO K Y_LW_law 10 601024 7293034 zqL (j905 r1 r2 r3 x4 s0 s1 z172.2 D171) (n23 * 1 + 1) (n23 * 6 + 6) z172 D171 905 [(0, .ref r0), (1, .ref r1), (2, .ref r2), (3, .ref r3), (4, .int x4)] [.int s1, .ref s0]) (fun r1 r2 r3 x4 s0 s1 z172 D171 => ?_) (fun j905 h905 => ?_)
                                  · refine z_jp (fun j932 : Nat → Nat → Nat → Int32 → Int32 → Nat → Int32 → zW → zD → Option (Int32) => ∀ (r1 : Nat) (r2 : Nat) (r3 : Nat) (x4 : Int32) (x5 : Int32) (s0 : Nat) (s1 : Int32) (z174 : zT) (D173 : zD), zGO K Y_LW_law 10 601024 7293034 zqL (j932 r1 r2 r3 x4 x5 s0 s1 z174.2 D173) (n23 * 1 + 0) (n23 * 6 + 0) z174 D173 932 [(0, .ref r0), (1, .ref r1), (2, .ref r2), (3, .ref r3), (4, .int x4), (5, .int x5)] [.int s1, .ref s0]) (fun r1 r2 r3 x4 x5 s0 s1 z174 D173 => ?_) (fun j932 h932 => ?_)
                                    · refine z_aload_n (pc := 932) d_LW_law_932 rfl 0 rfl ?_
                                      refine z_iload (pc := 933) d_LW_law_933 4 rfl ?_
                                      refine z_iconst (pc := 935) d_LW_law_935 ki_2 ?_
                                      refine z_iadd (pc := 936) d_LW_law_936 ?_
                                      refine z_ialoadR (pc := 937) d_LW_law_937 (fun v175 => ?_)
                                      refine z_callVi (pc := 938) [.int s1, .int v175] lkV_LW_150 rfl (c_MD_wall z174 D173 s0 s1 v175) (by decide) rfl rfl (Nat.le_of_ble_eq_true rfl) d_LW_law_938 (fun v176 D177 => ?_)
                                      refine z_istore (pc := 941) d_LW_law_941 (by decide) (lv' := [(6, .int v176), (0, .ref r0), (1, .ref r1), (2, .ref r2), (3, .ref r3), (4, .int x4), (5, .int x5)]) rfl ?_
                                      refine z_aload_n (pc := 943) d_LW_law_943 rfl 3 rfl ?_
                                      refine z_callVi (pc := 944) [] lkV_LW_104 rfl (c_MD_thrown z174 D177 r2 ) (by decide) rfl rfl (Nat.le_of_ble_eq_true rfl) d_LW_law_944 (fun v178 D179 => ?_)
                                      refine z_iload (pc := 947) d_LW_law_947 6 rfl ?_
                                      refine z_icmp_eq (pc := 949) (tgt := 954) d_LW_law_949 (by decide) ?_ ?_
                                      · refine z_jp (fun j971 : Nat → Nat → Nat → Int32 → zW → zD → Option (Int32) => ∀ (r1 : Nat) (r2 : Nat) (r3 : Nat) (x4 : Int32) (z181 : zT) (D180 : zD), zGO K Y_LW_law 10 601024 7293034 zqL (j971 r1 r2 r3 x4 z181.2 D180) (n23 * 1 + 0) (n23 * 6 + 0) z181 D180 971 [(0, .ref r0), (1, .ref r1), (2, .ref r2), (3, .ref r3), (4, .int x4)] []) (fun r1 r2 r3 x4 z181 D180 => ?_) (fun j971 h971 => ?_)
                                        · refine z_goto (pc := 971) (tgt := 1835) d_LW_law_971 (by decide) ?_
                                          refine z_kc (by omega) (by omega) (z_sub [0, 1, 2, 3, 4] rfl (h1835 r1 r2 r3 x4 z181 D180))
                                        · refine z_iload (pc := 954) d_LW_law_954 6 rfl ?_
                                          refine z_if_ne (pc := 956) (tgt := 971) d_LW_law_956 (by decide) ?_ ?_
                                          · refine z_aload_n (pc := 959) d_LW_law_959 rfl 4 rfl ?_
                                            refine z_iconst (pc := 960) d_LW_law_960 ki_0 ?_
                                            refine z_laload (pc := 961) d_LW_law_961 (fun v182 => ?_)
                                            refine z_iload (pc := 962) d_LW_law_962 0 rfl ?_
                                            refine z_i2l (pc := 964) d_LW_law_964 ?_
                                            refine z_lcmp (pc := 965) d_LW_law_965 (fun v183 => ?_)
                                            refine z_if_eq (pc := 966) (tgt := 971) d_LW_law_966 (by decide) ?_ ?_
                                            · refine z_kc (by omega) (by omega) (z_sub [1, 2, 3, 4, 5] rfl (h971 r1 r2 r3 x4 z174 D179))
                                            · refine z_kc (kc' := 0) (ks' := 0) (by omega) (by omega) ?_
                                              refine z_iconst (pc := 969) d_LW_law_969 ki_0 ?_
                                              exact z_lret (pc := 970) d_LW_law_970 rfl (by decide)
                                          · refine z_kc (by omega) (by omega) (z_sub [1, 2, 3, 4, 5] rfl (h971 r1 r2 r3 x4 z174 D179))
                                      · refine z_kc (kc' := 0) (ks' := 0) (by omega) (by omega) ?_
                                        refine z_iconst (pc := 952) d_LW_law_952 ki_0 ?_
                                        exact z_lret (pc := 953) d_LW_law_953 rfl (by decide)
                                    · refine z_aload_n (pc := 905) d_LW_law_905 rfl 0 rfl ?_
                                      refine z_iload (pc := 906) d_LW_law_906 4 rfl ?_
                                      refine z_iconst (pc := 908) d_LW_law_908 ki_2 ?_
                                      refine z_iadd (pc := 909) d_LW_law_909 ?_
                                      refine z_ialoadR (pc := 910) d_LW_law_910 (fun v184 => ?_)
                                      refine z_aload_n (pc := 911) d_LW_law_911 rfl 3 rfl ?_
                                      refine z_callH (pc := 912) (kc2 := (n23 * 1 + 0)) (ks2 := (n23 * 6 + 0)) [.ref s0, .int s1, .int v184, .ref r3] lkH_LW_147 (c_LW_wall z172 D171 s0 s1 v184 r3) (by decide) (by omega) (by omega) rfl rfl (Nat.le_of_ble_eq_true rfl) d_LW_law_912 (fun v185 D186 z187 => ?_)
                                      refine z_istore (pc := 915) d_LW_law_915 (by decide) (lv' := [(5, .int v185), (0, .ref r0), (1, .ref r1), (2, .ref r2), (3, .ref r3), (4, .int x4)]) rfl ?_
                                      refine z_aload_n (pc := 917) d_LW_law_917 rfl 3 rfl ?_
                                      refine z_aload_n (pc := 918) d_LW_law_918 rfl 1 rfl ?_
                                      refine z_iload (pc := 919) d_LW_law_919 5 rfl ?_
                                      refine z_iconst (pc := 921) d_LW_law_921 ki_1 ?_
                                      refine z_iadd (pc := 922) d_LW_law_922 ?_
                                      refine z_ialoadR (pc := 923) d_LW_law_923 (fun v188 => ?_)
                                      refine z_if_eq (pc := 924) (tgt := 931) d_LW_law_924 (by decide) ?_ ?_
                                      · refine z_iconst (pc := 931) d_LW_law_931 ki_0 ?_
                                        refine z_kc (by omega) (by omega) (z_sub [1, 2, 3, 4, 5, 0] rfl (h932 r1 r2 r3 x4 v185 r2 (0 : Int32) z187 D186))
                                      · refine z_iconst (pc := 927) d_LW_law_927 ki_1 ?_
                                        refine z_goto (pc := 928) (tgt := 932) d_LW_law_928 (by decide) ?_
                                        refine z_kc (by omega) (by omega) (z_sub [1, 2, 3, 4, 5, 0] rfl (h932 r1 r2 r3 x4 v185 r2 (1 : Int32) z187 D186))
                                  · refine z_aload_n (pc := 890) d_LW_law_890 rfl 1 rfl ?_
                                    refine z_aload_n (pc := 891) d_LW_law_891 rfl 0 rfl ?_
                                    refine z_iload (pc := 892) d_LW_law_892 4 rfl ?_
                                    refine z_iconst (pc := 894) d_LW_law_894 ki_1 ?_
                                    refine z_iadd (pc := 895) d_LW_law_895 ?_
                                    refine z_ialoadR (pc := 896) d_LW_law_896 (fun v189 => ?_)
                                    refine z_if_eq (pc := 897) (tgt := 904) d_LW_law_897 (by decide) ?_ ?_
                                    · refine z_iconst (pc := 904) d_LW_law_904 ki_0 ?_
                                      refine z_kc (by omega) (by omega) (z_sub [0, 1, 2, 3, 4] rfl (h905 r1 r2 r3 x4 r1 (0 : Int32) z2 D1))
                                    · refine z_iconst (pc := 900) d_LW_law_900 ki_1 ?_
                                      refine z_goto (pc := 901) (tgt := 905) d_LW_law_901 (by decide) ?_
                                      refine z_kc (by omega) (by omega) (z_sub [0, 1, 2, 3, 4] rfl (h905 r1 r2 r3 x4 r1 (1 : Int32) z2 D1))
                                · refine z_case (fun e13 => ?_) (fun e13 => ?_)
                                  · refine z_tableIn (pc := 40) (tgt := 974) d_LW_law_40 e13 (by decide) (by decide) rfl (by decide) ?_
                                    refine z_jp (fun j995 : Nat → Nat → Nat → Int32 → Nat → Int32 → Int32 → zW → zD → Option (Int32) => ∀ (r1 : Nat) (r2 : Nat) (r3 : Nat) (x4 : Int32) (s0 : Nat) (s1 : Int32) (s2 : Int32) (z191 : zT) (D190 : zD), zGO K Y_LW_law 10 601024 7293034 zqL (j995 r1 r2 r3 x4 s0 s1 s2 z191.2 D190) (n23 * 1 + 1) (n23 * 6 + 6) z191 D190 995 [(0, .ref r0), (1, .ref r1), (2, .ref r2), (3, .ref r3), (4, .int x4)] [.int s2, .int s1, .ref s0]) (fun r1 r2 r3 x4 s0 s1 s2 z191 D190 => ?_) (fun j995 h995 => ?_)
                                    · refine z_jp (fun j1022 : Nat → Nat → Nat → Int32 → Int32 → Nat → Int32 → Int32 → zW → zD → Option (Int32) => ∀ (r1 : Nat) (r2 : Nat) (r3 : Nat) (x4 : Int32) (x5 : Int32) (s0 : Nat) (s1 : Int32) (s2 : Int32) (z193 : zT) (D192 : zD), zGO K Y_LW_law 10 601024 7293034 zqL (j1022 r1 r2 r3 x4 x5 s0 s1 s2 z193.2 D192) (n23 * 1 + 0) (n23 * 6 + 0) z193 D192 1022 [(0, .ref r0), (1, .ref r1), (2, .ref r2), (3, .ref r3), (4, .int x4), (5, .int x5)] [.int s2, .int s1, .ref s0]) (fun r1 r2 r3 x4 x5 s0 s1 s2 z193 D192 => ?_) (fun j1022 h1022 => ?_)
                                      · refine z_callVi (pc := 1022) [.int s1, .int s2] lkV_LW_154 rfl (c_MD_turn z193 D192 s0 s1 s2) (by decide) rfl rfl (Nat.le_of_ble_eq_true rfl) d_LW_law_1022 (fun v194 D195 => ?_)
                                        refine z_istore (pc := 1025) d_LW_law_1025 (by decide) (lv' := [(6, .int v194), (0, .ref r0), (1, .ref r1), (2, .ref r2), (3, .ref r3), (4, .int x4), (5, .int x5)]) rfl ?_
                                        refine z_aload_n (pc := 1027) d_LW_law_1027 rfl 3 rfl ?_
                                        refine z_callVi (pc := 1028) [] lkV_LW_104 rfl (c_MD_thrown z193 D195 r2 ) (by decide) rfl rfl (Nat.le_of_ble_eq_true rfl) d_LW_law_1028 (fun v196 D197 => ?_)
                                        refine z_iload (pc := 1031) d_LW_law_1031 6 rfl ?_
                                        refine z_icmp_eq (pc := 1033) (tgt := 1038) d_LW_law_1033 (by decide) ?_ ?_
                                        · refine z_jp (fun j1055 : Nat → Nat → Nat → Int32 → zW → zD → Option (Int32) => ∀ (r1 : Nat) (r2 : Nat) (r3 : Nat) (x4 : Int32) (z199 : zT) (D198 : zD), zGO K Y_LW_law 10 601024 7293034 zqL (j1055 r1 r2 r3 x4 z199.2 D198) (n23 * 1 + 0) (n23 * 6 + 0) z199 D198 1055 [(0, .ref r0), (1, .ref r1), (2, .ref r2), (3, .ref r3), (4, .int x4)] []) (fun r1 r2 r3 x4 z199 D198 => ?_) (fun j1055 h1055 => ?_)
                                          · refine z_goto (pc := 1055) (tgt := 1835) d_LW_law_1055 (by decide) ?_
                                            refine z_kc (by omega) (by omega) (z_sub [0, 1, 2, 3, 4] rfl (h1835 r1 r2 r3 x4 z199 D198))
                                          · refine z_iload (pc := 1038) d_LW_law_1038 6 rfl ?_
                                            refine z_if_ne (pc := 1040) (tgt := 1055) d_LW_law_1040 (by decide) ?_ ?_
                                            · refine z_aload_n (pc := 1043) d_LW_law_1043 rfl 4 rfl ?_
                                              refine z_iconst (pc := 1044) d_LW_law_1044 ki_0 ?_
                                              refine z_laload (pc := 1045) d_LW_law_1045 (fun v200 => ?_)
                                              refine z_iload (pc := 1046) d_LW_law_1046 0 rfl ?_
                                              refine z_i2l (pc := 1048) d_LW_law_1048 ?_
                                              refine z_lcmp (pc := 1049) d_LW_law_1049 (fun v201 => ?_)
                                              refine z_if_eq (pc := 1050) (tgt := 1055) d_LW_law_1050 (by decide) ?_ ?_
                                              · refine z_kc (by omega) (by omega) (z_sub [1, 2, 3, 4, 5] rfl (h1055 r1 r2 r3 x4 z193 D197))
                                              · refine z_kc (kc' := 0) (ks' := 0) (by omega) (by omega) ?_
                                                refine z_iconst (pc := 1053) d_LW_law_1053 ki_0 ?_
                                                exact z_lret (pc := 1054) d_LW_law_1054 rfl (by decide)
                                            · refine z_kc (by omega) (by omega) (z_sub [1, 2, 3, 4, 5] rfl (h1055 r1 r2 r3 x4 z193 D197))
                                        · refine z_kc (kc' := 0) (ks' := 0) (by omega) (by omega) ?_
                                          refine z_iconst (pc := 1036) d_LW_law_1036 ki_0 ?_
                                          exact z_lret (pc := 1037) d_LW_law_1037 rfl (by decide)
                                      · refine z_aload_n (pc := 995) d_LW_law_995 rfl 3 rfl ?_
                                        refine z_callH (pc := 996) (kc2 := (n23 * 1 + 0)) (ks2 := (n23 * 6 + 0)) [.ref s0, .int s1, .int s2, .ref r3] lkH_LW_151 (c_LW_turn z191 D190 s0 s1 s2 r3) (by decide) (by omega) (by omega) rfl rfl (Nat.le_of_ble_eq_true rfl) d_LW_law_996 (fun v202 D203 z204 => ?_)
                                        refine z_istore (pc := 999) d_LW_law_999 (by decide) (lv' := [(5, .int v202), (0, .ref r0), (1, .ref r1), (2, .ref r2), (3, .ref r3), (4, .int x4)]) rfl ?_
                                        refine z_aload_n (pc := 1001) d_LW_law_1001 rfl 3 rfl ?_
                                        refine z_aload_n (pc := 1002) d_LW_law_1002 rfl 1 rfl ?_
                                        refine z_iload (pc := 1003) d_LW_law_1003 5 rfl ?_
                                        refine z_iconst (pc := 1005) d_LW_law_1005 ki_1 ?_
                                        refine z_iadd (pc := 1006) d_LW_law_1006 ?_
                                        refine z_ialoadR (pc := 1007) d_LW_law_1007 (fun v205 => ?_)
                                        refine z_aload_n (pc := 1008) d_LW_law_1008 rfl 1 rfl ?_
                                        refine z_iload (pc := 1009) d_LW_law_1009 5 rfl ?_
                                        refine z_iconst (pc := 1011) d_LW_law_1011 ki_2 ?_
                                        refine z_iadd (pc := 1012) d_LW_law_1012 ?_
                                        refine z_ialoadR (pc := 1013) d_LW_law_1013 (fun v206 => ?_)
                                        refine z_if_eq (pc := 1014) (tgt := 1021) d_LW_law_1014 (by decide) ?_ ?_
                                        · refine z_iconst (pc := 1021) d_LW_law_1021 ki_0 ?_
                                          refine z_kc (by omega) (by omega) (z_sub [1, 2, 3, 4, 5, 0] rfl (h1022 r1 r2 r3 x4 v202 r2 v205 (0 : Int32) z204 D203))
                                        · refine z_iconst (pc := 1017) d_LW_law_1017 ki_1 ?_
                                          refine z_goto (pc := 1018) (tgt := 1022) d_LW_law_1018 (by decide) ?_
                                          refine z_kc (by omega) (by omega) (z_sub [1, 2, 3, 4, 5, 0] rfl (h1022 r1 r2 r3 x4 v202 r2 v205 (1 : Int32) z204 D203))
                                    · refine z_aload_n (pc := 974) d_LW_law_974 rfl 1 rfl ?_
                                      refine z_aload_n (pc := 975) d_LW_law_975 rfl 0 rfl ?_
                                      refine z_iload (pc := 976) d_LW_law_976 4 rfl ?_
                                      refine z_iconst (pc := 978) d_LW_law_978 ki_1 ?_
                                      refine z_iadd (pc := 979) d_LW_law_979 ?_
                                      refine z_ialoadR (pc := 980) d_LW_law_980 (fun v207 => ?_)
                                      refine z_aload_n (pc := 981) d_LW_law_981 rfl 0 rfl ?_
                                      refine z_iload (pc := 982) d_LW_law_982 4 rfl ?_
                                      refine z_iconst (pc := 984) d_LW_law_984 ki_2 ?_
                                      refine z_iadd (pc := 985) d_LW_law_985 ?_
                                      refine z_ialoadR (pc := 986) d_LW_law_986 (fun v208 => ?_)
                                      refine z_if_eq (pc := 987) (tgt := 994) d_LW_law_987 (by decide) ?_ ?_
                                      · refine z_iconst (pc := 994) d_LW_law_994 ki_0 ?_
                                        refine z_kc (by omega) (by omega) (z_sub [0, 1, 2, 3, 4] rfl (h995 r1 r2 r3 x4 r1 v207 (0 : Int32) z2 D1))
                                      · refine z_iconst (pc := 990) d_LW_law_990 ki_1 ?_
                                        refine z_goto (pc := 991) (tgt := 995) d_LW_law_991 (by decide) ?_
                                        refine z_kc (by omega) (by omega) (z_sub [0, 1, 2, 3, 4] rfl (h995 r1 r2 r3 x4 r1 v207 (1 : Int32) z2 D1))
                                  · refine z_case (fun e14 => ?_) (fun e14 => ?_)
                                    · refine z_tableIn (pc := 40) (tgt := 1058) d_LW_law_40 e14 (by decide) (by decide) rfl (by decide) ?_
                                      refine z_aload_n (pc := 1058) d_LW_law_1058 rfl 1 rfl ?_
                                      refine z_aload_n (pc := 1059) d_LW_law_1059 rfl 0 rfl ?_
                                      refine z_iload (pc := 1060) d_LW_law_1060 4 rfl ?_
                                      refine z_iconst (pc := 1062) d_LW_law_1062 ki_1 ?_
                                      refine z_iadd (pc := 1063) d_LW_law_1063 ?_
                                      refine z_ialoadR (pc := 1064) d_LW_law_1064 (fun v209 => ?_)
                                      refine z_aload_n (pc := 1065) d_LW_law_1065 rfl 0 rfl ?_
                                      refine z_iload (pc := 1066) d_LW_law_1066 4 rfl ?_
                                      refine z_iconst (pc := 1068) d_LW_law_1068 ki_2 ?_
                                      refine z_iadd (pc := 1069) d_LW_law_1069 ?_
                                      refine z_ialoadR (pc := 1070) d_LW_law_1070 (fun v210 => ?_)
                                      refine z_aload_n (pc := 1071) d_LW_law_1071 rfl 0 rfl ?_
                                      refine z_iload (pc := 1072) d_LW_law_1072 4 rfl ?_
                                      refine z_iconst (pc := 1074) d_LW_law_1074 ki_3 ?_
                                      refine z_iadd (pc := 1075) d_LW_law_1075 ?_
                                      refine z_ialoadR (pc := 1076) d_LW_law_1076 (fun v211 => ?_)
                                      refine z_aload_n (pc := 1077) d_LW_law_1077 rfl 3 rfl ?_
                                      refine z_callH (pc := 1078) (kc2 := (n23 * 1 + 0)) (ks2 := (n23 * 6 + 0)) [.ref r1, .int v209, .int v210, .int v211, .ref r3] lkH_LW_155 (c_LW_walk z2 D1 r1 v209 v210 v211 r3) (by decide) (by omega) (by omega) rfl rfl (Nat.le_of_ble_eq_true rfl) d_LW_law_1078 (fun v212 D213 z214 => ?_)
                                      refine z_istore (pc := 1081) d_LW_law_1081 (by decide) (lv' := [(5, .int v212), (0, .ref r0), (1, .ref r1), (2, .ref r2), (3, .ref r3), (4, .int x4)]) rfl ?_
                                      refine z_aload_n (pc := 1083) d_LW_law_1083 rfl 3 rfl ?_
                                      refine z_aload_n (pc := 1084) d_LW_law_1084 rfl 1 rfl ?_
                                      refine z_iload (pc := 1085) d_LW_law_1085 5 rfl ?_
                                      refine z_iconst (pc := 1087) d_LW_law_1087 ki_1 ?_
                                      refine z_iadd (pc := 1088) d_LW_law_1088 ?_
                                      refine z_ialoadR (pc := 1089) d_LW_law_1089 (fun v215 => ?_)
                                      refine z_aload_n (pc := 1090) d_LW_law_1090 rfl 1 rfl ?_
                                      refine z_iload (pc := 1091) d_LW_law_1091 5 rfl ?_
                                      refine z_iconst (pc := 1093) d_LW_law_1093 ki_2 ?_
                                      refine z_iadd (pc := 1094) d_LW_law_1094 ?_
                                      refine z_ialoadR (pc := 1095) d_LW_law_1095 (fun v216 => ?_)
                                      refine z_aload_n (pc := 1096) d_LW_law_1096 rfl 1 rfl ?_
                                      refine z_iload (pc := 1097) d_LW_law_1097 5 rfl ?_
                                      refine z_iconst (pc := 1099) d_LW_law_1099 ki_3 ?_
                                      refine z_iadd (pc := 1100) d_LW_law_1100 ?_
                                      refine z_ialoadR (pc := 1101) d_LW_law_1101 (fun v217 => ?_)
                                      refine z_callVi (pc := 1102) [.int v215, .int v216, .int v217] lkV_LW_157 rfl (c_MD_walk z214 D213 r2 v215 v216 v217) (by decide) rfl rfl (Nat.le_of_ble_eq_true rfl) d_LW_law_1102 (fun v218 D219 => ?_)
                                      refine z_istore (pc := 1105) d_LW_law_1105 (by decide) (lv' := [(6, .int v218), (5, .int v212), (0, .ref r0), (1, .ref r1), (2, .ref r2), (3, .ref r3), (4, .int x4)]) rfl ?_
                                      refine z_aload_n (pc := 1107) d_LW_law_1107 rfl 4 rfl ?_
                                      refine z_callVi (pc := 1108) [] lkV_LW_104 rfl (c_MD_thrown z214 D219 r2 ) (by decide) rfl rfl (Nat.le_of_ble_eq_true rfl) d_LW_law_1108 (fun v220 D221 => ?_)
                                      refine z_iload (pc := 1111) d_LW_law_1111 1 rfl ?_
                                      refine z_icmp_eq (pc := 1113) (tgt := 1118) d_LW_law_1113 (by decide) ?_ ?_
                                      · refine z_jp (fun j1135 : Nat → Nat → Nat → Int32 → zW → zD → Option (Int32) => ∀ (r1 : Nat) (r2 : Nat) (r3 : Nat) (x4 : Int32) (z223 : zT) (D222 : zD), zGO K Y_LW_law 10 601024 7293034 zqL (j1135 r1 r2 r3 x4 z223.2 D222) (n23 * 1 + 0) (n23 * 6 + 0) z223 D222 1135 [(0, .ref r0), (1, .ref r1), (2, .ref r2), (3, .ref r3), (4, .int x4)] []) (fun r1 r2 r3 x4 z223 D222 => ?_) (fun j1135 h1135 => ?_)
                                        · refine z_goto (pc := 1135) (tgt := 1835) d_LW_law_1135 (by decide) ?_
                                          refine z_kc (by omega) (by omega) (z_sub [0, 1, 2, 3, 4] rfl (h1835 r1 r2 r3 x4 z223 D222))
                                        · refine z_iload (pc := 1118) d_LW_law_1118 1 rfl ?_
                                          refine z_if_ne (pc := 1120) (tgt := 1135) d_LW_law_1120 (by decide) ?_ ?_
                                          · refine z_aload_n (pc := 1123) d_LW_law_1123 rfl 5 rfl ?_
                                            refine z_iconst (pc := 1124) d_LW_law_1124 ki_0 ?_
                                            refine z_laload (pc := 1125) d_LW_law_1125 (fun v224 => ?_)
                                            refine z_iload (pc := 1126) d_LW_law_1126 0 rfl ?_
                                            refine z_i2l (pc := 1128) d_LW_law_1128 ?_
                                            refine z_lcmp (pc := 1129) d_LW_law_1129 (fun v225 => ?_)
                                            refine z_if_eq (pc := 1130) (tgt := 1135) d_LW_law_1130 (by decide) ?_ ?_
                                            · refine z_kc (by omega) (by omega) (z_sub [2, 3, 4, 5, 6] rfl (h1135 r1 r2 r3 x4 z214 D221))
                                            · refine z_kc (kc' := 0) (ks' := 0) (by omega) (by omega) ?_
                                              refine z_iconst (pc := 1133) d_LW_law_1133 ki_0 ?_
                                              exact z_lret (pc := 1134) d_LW_law_1134 rfl (by decide)
                                          · refine z_kc (by omega) (by omega) (z_sub [2, 3, 4, 5, 6] rfl (h1135 r1 r2 r3 x4 z214 D221))
                                      · refine z_kc (kc' := 0) (ks' := 0) (by omega) (by omega) ?_
                                        refine z_iconst (pc := 1116) d_LW_law_1116 ki_0 ?_
                                        exact z_lret (pc := 1117) d_LW_law_1117 rfl (by decide)
                                    · refine z_case (fun e15 => ?_) (fun e15 => ?_)
                                      · refine z_tableIn (pc := 40) (tgt := 1138) d_LW_law_40 e15 (by decide) (by decide) rfl (by decide) ?_
                                        refine z_aload_n (pc := 1138) d_LW_law_1138 rfl 1 rfl ?_
                                        refine z_aload_n (pc := 1139) d_LW_law_1139 rfl 0 rfl ?_
                                        refine z_iload (pc := 1140) d_LW_law_1140 4 rfl ?_
                                        refine z_iconst (pc := 1142) d_LW_law_1142 ki_1 ?_
                                        refine z_iadd (pc := 1143) d_LW_law_1143 ?_
                                        refine z_ialoadR (pc := 1144) d_LW_law_1144 (fun v226 => ?_)
                                        refine z_aload_n (pc := 1145) d_LW_law_1145 rfl 3 rfl ?_
                                        refine z_callH (pc := 1146) (kc2 := (n23 * 1 + 0)) (ks2 := (n23 * 6 + 0)) [.ref r1, .int v226, .ref r3] lkH_LW_158 (c_LW_ticks z2 D1 r1 v226 r3) (by decide) (by omega) (by omega) rfl rfl (Nat.le_of_ble_eq_true rfl) d_LW_law_1146 (fun v227 D228 z229 => ?_)
                                        refine z_istore (pc := 1149) d_LW_law_1149 (by decide) (lv' := [(5, .int v227), (0, .ref r0), (1, .ref r1), (2, .ref r2), (3, .ref r3), (4, .int x4)]) rfl ?_
                                        refine z_aload_n (pc := 1151) d_LW_law_1151 rfl 3 rfl ?_
                                        refine z_aload_n (pc := 1152) d_LW_law_1152 rfl 1 rfl ?_
                                        refine z_iload (pc := 1153) d_LW_law_1153 5 rfl ?_
                                        refine z_iconst (pc := 1155) d_LW_law_1155 ki_1 ?_
                                        refine z_iadd (pc := 1156) d_LW_law_1156 ?_
                                        refine z_ialoadR (pc := 1157) d_LW_law_1157 (fun v230 => ?_)
                                        refine z_callVi (pc := 1158) [.int v230] lkV_LW_160 rfl (c_MD_ticks z229 D228 r2 v230) (by decide) rfl rfl (Nat.le_of_ble_eq_true rfl) d_LW_law_1158 (fun v231 D232 => ?_)
                                        refine z_istore (pc := 1161) d_LW_law_1161 (by decide) (lv' := [(6, .int v231), (5, .int v227), (0, .ref r0), (1, .ref r1), (2, .ref r2), (3, .ref r3), (4, .int x4)]) rfl ?_
                                        refine z_aload_n (pc := 1163) d_LW_law_1163 rfl 4 rfl ?_
                                        refine z_callVi (pc := 1164) [] lkV_LW_104 rfl (c_MD_thrown z229 D232 r2 ) (by decide) rfl rfl (Nat.le_of_ble_eq_true rfl) d_LW_law_1164 (fun v233 D234 => ?_)
                                        refine z_iload (pc := 1167) d_LW_law_1167 1 rfl ?_
                                        refine z_icmp_eq (pc := 1169) (tgt := 1174) d_LW_law_1169 (by decide) ?_ ?_
                                        · refine z_jp (fun j1191 : Nat → Nat → Nat → Int32 → zW → zD → Option (Int32) => ∀ (r1 : Nat) (r2 : Nat) (r3 : Nat) (x4 : Int32) (z236 : zT) (D235 : zD), zGO K Y_LW_law 10 601024 7293034 zqL (j1191 r1 r2 r3 x4 z236.2 D235) (n23 * 1 + 0) (n23 * 6 + 0) z236 D235 1191 [(0, .ref r0), (1, .ref r1), (2, .ref r2), (3, .ref r3), (4, .int x4)] []) (fun r1 r2 r3 x4 z236 D235 => ?_) (fun j1191 h1191 => ?_)
                                          · refine z_goto (pc := 1191) (tgt := 1835) d_LW_law_1191 (by decide) ?_
                                            refine z_kc (by omega) (by omega) (z_sub [0, 1, 2, 3, 4] rfl (h1835 r1 r2 r3 x4 z236 D235))
                                          · refine z_iload (pc := 1174) d_LW_law_1174 1 rfl ?_
                                            refine z_if_ne (pc := 1176) (tgt := 1191) d_LW_law_1176 (by decide) ?_ ?_
                                            · refine z_aload_n (pc := 1179) d_LW_law_1179 rfl 5 rfl ?_
                                              refine z_iconst (pc := 1180) d_LW_law_1180 ki_0 ?_
                                              refine z_laload (pc := 1181) d_LW_law_1181 (fun v237 => ?_)
                                              refine z_iload (pc := 1182) d_LW_law_1182 0 rfl ?_
                                              refine z_i2l (pc := 1184) d_LW_law_1184 ?_
                                              refine z_lcmp (pc := 1185) d_LW_law_1185 (fun v238 => ?_)
                                              refine z_if_eq (pc := 1186) (tgt := 1191) d_LW_law_1186 (by decide) ?_ ?_
                                              · refine z_kc (by omega) (by omega) (z_sub [2, 3, 4, 5, 6] rfl (h1191 r1 r2 r3 x4 z229 D234))
                                              · refine z_kc (kc' := 0) (ks' := 0) (by omega) (by omega) ?_
                                                refine z_iconst (pc := 1189) d_LW_law_1189 ki_0 ?_
                                                exact z_lret (pc := 1190) d_LW_law_1190 rfl (by decide)
                                            · refine z_kc (by omega) (by omega) (z_sub [2, 3, 4, 5, 6] rfl (h1191 r1 r2 r3 x4 z229 D234))
                                        · refine z_kc (kc' := 0) (ks' := 0) (by omega) (by omega) ?_
                                          refine z_iconst (pc := 1172) d_LW_law_1172 ki_0 ?_
                                          exact z_lret (pc := 1173) d_LW_law_1173 rfl (by decide)
                                      · refine z_case (fun e16 => ?_) (fun e16 => ?_)
                                        · refine z_tableIn (pc := 40) (tgt := 1194) d_LW_law_40 e16 (by decide) (by decide) rfl (by decide) ?_
                                          refine z_aload_n (pc := 1194) d_LW_law_1194 rfl 1 rfl ?_
                                          refine z_aload_n (pc := 1195) d_LW_law_1195 rfl 0 rfl ?_
                                          refine z_iload (pc := 1196) d_LW_law_1196 4 rfl ?_
                                          refine z_iconst (pc := 1198) d_LW_law_1198 ki_1 ?_
                                          refine z_iadd (pc := 1199) d_LW_law_1199 ?_
                                          refine z_ialoadR (pc := 1200) d_LW_law_1200 (fun v239 => ?_)
                                          refine z_aload_n (pc := 1201) d_LW_law_1201 rfl 0 rfl ?_
                                          refine z_iload (pc := 1202) d_LW_law_1202 4 rfl ?_
                                          refine z_iconst (pc := 1204) d_LW_law_1204 ki_2 ?_
                                          refine z_iadd (pc := 1205) d_LW_law_1205 ?_
                                          refine z_ialoadR (pc := 1206) d_LW_law_1206 (fun v240 => ?_)
                                          refine z_aload_n (pc := 1207) d_LW_law_1207 rfl 3 rfl ?_
                                          refine z_callH (pc := 1208) (kc2 := (n23 * 1 + 0)) (ks2 := (n23 * 6 + 0)) [.ref r1, .int v239, .int v240, .ref r3] lkH_LW_161 (c_LW_set z2 D1 r1 v239 v240 r3) (by decide) (by omega) (by omega) rfl rfl (Nat.le_of_ble_eq_true rfl) d_LW_law_1208 (fun v241 D242 z243 => ?_)
                                          refine z_istore (pc := 1211) d_LW_law_1211 (by decide) (lv' := [(5, .int v241), (0, .ref r0), (1, .ref r1), (2, .ref r2), (3, .ref r3), (4, .int x4)]) rfl ?_
                                          refine z_aload_n (pc := 1213) d_LW_law_1213 rfl 3 rfl ?_
                                          refine z_aload_n (pc := 1214) d_LW_law_1214 rfl 1 rfl ?_
                                          refine z_iload (pc := 1215) d_LW_law_1215 5 rfl ?_
                                          refine z_iconst (pc := 1217) d_LW_law_1217 ki_1 ?_
                                          refine z_iadd (pc := 1218) d_LW_law_1218 ?_
                                          refine z_ialoadR (pc := 1219) d_LW_law_1219 (fun v244 => ?_)
                                          refine z_aload_n (pc := 1220) d_LW_law_1220 rfl 1 rfl ?_
                                          refine z_iload (pc := 1221) d_LW_law_1221 5 rfl ?_
                                          refine z_iconst (pc := 1223) d_LW_law_1223 ki_2 ?_
                                          refine z_iadd (pc := 1224) d_LW_law_1224 ?_
                                          refine z_ialoadR (pc := 1225) d_LW_law_1225 (fun v245 => ?_)
                                          refine z_callVi (pc := 1226) [.int v244, .int v245] lkV_LW_163 rfl (c_MD_set z243 D242 r2 v244 v245) (by decide) rfl rfl (Nat.le_of_ble_eq_true rfl) d_LW_law_1226 (fun v246 D247 => ?_)
                                          refine z_istore (pc := 1229) d_LW_law_1229 (by decide) (lv' := [(6, .int v246), (5, .int v241), (0, .ref r0), (1, .ref r1), (2, .ref r2), (3, .ref r3), (4, .int x4)]) rfl ?_
                                          refine z_aload_n (pc := 1231) d_LW_law_1231 rfl 4 rfl ?_
                                          refine z_callVi (pc := 1232) [] lkV_LW_104 rfl (c_MD_thrown z243 D247 r2 ) (by decide) rfl rfl (Nat.le_of_ble_eq_true rfl) d_LW_law_1232 (fun v248 D249 => ?_)
                                          refine z_iload (pc := 1235) d_LW_law_1235 1 rfl ?_
                                          refine z_icmp_eq (pc := 1237) (tgt := 1242) d_LW_law_1237 (by decide) ?_ ?_
                                          · refine z_jp (fun j1259 : Nat → Nat → Nat → Int32 → zW → zD → Option (Int32) => ∀ (r1 : Nat) (r2 : Nat) (r3 : Nat) (x4 : Int32) (z251 : zT) (D250 : zD), zGO K Y_LW_law 10 601024 7293034 zqL (j1259 r1 r2 r3 x4 z251.2 D250) (n23 * 1 + 0) (n23 * 6 + 0) z251 D250 1259 [(0, .ref r0), (1, .ref r1), (2, .ref r2), (3, .ref r3), (4, .int x4)] []) (fun r1 r2 r3 x4 z251 D250 => ?_) (fun j1259 h1259 => ?_)
                                            · refine z_goto (pc := 1259) (tgt := 1835) d_LW_law_1259 (by decide) ?_
                                              refine z_kc (by omega) (by omega) (z_sub [0, 1, 2, 3, 4] rfl (h1835 r1 r2 r3 x4 z251 D250))
                                            · refine z_iload (pc := 1242) d_LW_law_1242 1 rfl ?_
                                              refine z_if_ne (pc := 1244) (tgt := 1259) d_LW_law_1244 (by decide) ?_ ?_
                                              · refine z_aload_n (pc := 1247) d_LW_law_1247 rfl 5 rfl ?_
                                                refine z_iconst (pc := 1248) d_LW_law_1248 ki_0 ?_
                                                refine z_laload (pc := 1249) d_LW_law_1249 (fun v252 => ?_)
                                                refine z_iload (pc := 1250) d_LW_law_1250 0 rfl ?_
                                                refine z_i2l (pc := 1252) d_LW_law_1252 ?_
                                                refine z_lcmp (pc := 1253) d_LW_law_1253 (fun v253 => ?_)
                                                refine z_if_eq (pc := 1254) (tgt := 1259) d_LW_law_1254 (by decide) ?_ ?_
                                                · refine z_kc (by omega) (by omega) (z_sub [2, 3, 4, 5, 6] rfl (h1259 r1 r2 r3 x4 z243 D249))
                                                · refine z_kc (kc' := 0) (ks' := 0) (by omega) (by omega) ?_
                                                  refine z_iconst (pc := 1257) d_LW_law_1257 ki_0 ?_
                                                  exact z_lret (pc := 1258) d_LW_law_1258 rfl (by decide)
                                              · refine z_kc (by omega) (by omega) (z_sub [2, 3, 4, 5, 6] rfl (h1259 r1 r2 r3 x4 z243 D249))
                                          · refine z_kc (kc' := 0) (ks' := 0) (by omega) (by omega) ?_
                                            refine z_iconst (pc := 1240) d_LW_law_1240 ki_0 ?_
                                            exact z_lret (pc := 1241) d_LW_law_1241 rfl (by decide)
                                        · refine z_case (fun e17 => ?_) (fun e17 => ?_)
                                          · refine z_tableIn (pc := 40) (tgt := 1262) d_LW_law_40 e17 (by decide) (by decide) rfl (by decide) ?_
                                            refine z_aload_n (pc := 1262) d_LW_law_1262 rfl 1 rfl ?_
                                            refine z_aload_n (pc := 1263) d_LW_law_1263 rfl 3 rfl ?_
                                            refine z_callH (pc := 1264) (kc2 := (n23 * 1 + 0)) (ks2 := (n23 * 6 + 0)) [.ref r1, .ref r3] lkH_LW_164 (c_LW_undo z2 D1 r1 r3) (by decide) (by omega) (by omega) rfl rfl (Nat.le_of_ble_eq_true rfl) d_LW_law_1264 (fun v254 D255 z256 => ?_)
                                            refine z_istore (pc := 1267) d_LW_law_1267 (by decide) (lv' := [(5, .int v254), (0, .ref r0), (1, .ref r1), (2, .ref r2), (3, .ref r3), (4, .int x4)]) rfl ?_
                                            refine z_aload_n (pc := 1269) d_LW_law_1269 rfl 3 rfl ?_
                                            refine z_callVi (pc := 1270) [] lkV_LW_166 rfl (c_MD_undo z256 D255 r2 ) (by decide) rfl rfl (Nat.le_of_ble_eq_true rfl) d_LW_law_1270 (fun v257 D258 => ?_)
                                            refine z_istore (pc := 1273) d_LW_law_1273 (by decide) (lv' := [(6, .int v257), (5, .int v254), (0, .ref r0), (1, .ref r1), (2, .ref r2), (3, .ref r3), (4, .int x4)]) rfl ?_
                                            refine z_aload_n (pc := 1275) d_LW_law_1275 rfl 4 rfl ?_
                                            refine z_callVi (pc := 1276) [] lkV_LW_104 rfl (c_MD_thrown z256 D258 r2 ) (by decide) rfl rfl (Nat.le_of_ble_eq_true rfl) d_LW_law_1276 (fun v259 D260 => ?_)
                                            refine z_iload (pc := 1279) d_LW_law_1279 1 rfl ?_
                                            refine z_icmp_eq (pc := 1281) (tgt := 1286) d_LW_law_1281 (by decide) ?_ ?_
                                            · refine z_jp (fun j1303 : Nat → Nat → Nat → Int32 → zW → zD → Option (Int32) => ∀ (r1 : Nat) (r2 : Nat) (r3 : Nat) (x4 : Int32) (z262 : zT) (D261 : zD), zGO K Y_LW_law 10 601024 7293034 zqL (j1303 r1 r2 r3 x4 z262.2 D261) (n23 * 1 + 0) (n23 * 6 + 0) z262 D261 1303 [(0, .ref r0), (1, .ref r1), (2, .ref r2), (3, .ref r3), (4, .int x4)] []) (fun r1 r2 r3 x4 z262 D261 => ?_) (fun j1303 h1303 => ?_)
                                              · refine z_goto (pc := 1303) (tgt := 1835) d_LW_law_1303 (by decide) ?_
                                                refine z_kc (by omega) (by omega) (z_sub [0, 1, 2, 3, 4] rfl (h1835 r1 r2 r3 x4 z262 D261))
                                              · refine z_iload (pc := 1286) d_LW_law_1286 1 rfl ?_
                                                refine z_if_ne (pc := 1288) (tgt := 1303) d_LW_law_1288 (by decide) ?_ ?_
                                                · refine z_aload_n (pc := 1291) d_LW_law_1291 rfl 5 rfl ?_
                                                  refine z_iconst (pc := 1292) d_LW_law_1292 ki_0 ?_
                                                  refine z_laload (pc := 1293) d_LW_law_1293 (fun v263 => ?_)
                                                  refine z_iload (pc := 1294) d_LW_law_1294 0 rfl ?_
                                                  refine z_i2l (pc := 1296) d_LW_law_1296 ?_
                                                  refine z_lcmp (pc := 1297) d_LW_law_1297 (fun v264 => ?_)
                                                  refine z_if_eq (pc := 1298) (tgt := 1303) d_LW_law_1298 (by decide) ?_ ?_
                                                  · refine z_kc (by omega) (by omega) (z_sub [2, 3, 4, 5, 6] rfl (h1303 r1 r2 r3 x4 z256 D260))
                                                  · refine z_kc (kc' := 0) (ks' := 0) (by omega) (by omega) ?_
                                                    refine z_iconst (pc := 1301) d_LW_law_1301 ki_0 ?_
                                                    exact z_lret (pc := 1302) d_LW_law_1302 rfl (by decide)
                                                · refine z_kc (by omega) (by omega) (z_sub [2, 3, 4, 5, 6] rfl (h1303 r1 r2 r3 x4 z256 D260))
                                            · refine z_kc (kc' := 0) (ks' := 0) (by omega) (by omega) ?_
                                              refine z_iconst (pc := 1284) d_LW_law_1284 ki_0 ?_
                                              exact z_lret (pc := 1285) d_LW_law_1285 rfl (by decide)
                                          · refine z_case (fun e18 => ?_) (fun e18 => ?_)
                                            · refine z_tableIn (pc := 40) (tgt := 1306) d_LW_law_40 e18 (by decide) (by decide) rfl (by decide) ?_
                                              refine z_aload_n (pc := 1306) d_LW_law_1306 rfl 1 rfl ?_
                                              refine z_aload_n (pc := 1307) d_LW_law_1307 rfl 0 rfl ?_
                                              refine z_iload (pc := 1308) d_LW_law_1308 4 rfl ?_
                                              refine z_iconst (pc := 1310) d_LW_law_1310 ki_1 ?_
                                              refine z_iadd (pc := 1311) d_LW_law_1311 ?_
                                              refine z_ialoadR (pc := 1312) d_LW_law_1312 (fun v265 => ?_)
                                              refine z_aload_n (pc := 1313) d_LW_law_1313 rfl 0 rfl ?_
                                              refine z_iload (pc := 1314) d_LW_law_1314 4 rfl ?_
                                              refine z_iconst (pc := 1316) d_LW_law_1316 ki_2 ?_
                                              refine z_iadd (pc := 1317) d_LW_law_1317 ?_
                                              refine z_ialoadR (pc := 1318) d_LW_law_1318 (fun v266 => ?_)
                                              refine z_aload_n (pc := 1319) d_LW_law_1319 rfl 0 rfl ?_
                                              refine z_iload (pc := 1320) d_LW_law_1320 4 rfl ?_
                                              refine z_iconst (pc := 1322) d_LW_law_1322 ki_3 ?_
                                              refine z_iadd (pc := 1323) d_LW_law_1323 ?_
                                              refine z_ialoadR (pc := 1324) d_LW_law_1324 (fun v267 => ?_)
                                              refine z_aload_n (pc := 1325) d_LW_law_1325 rfl 3 rfl ?_
                                              refine z_callH (pc := 1326) (kc2 := (n23 * 1 + 0)) (ks2 := (n23 * 6 + 0)) [.ref r1, .int v265, .int v266, .int v267, .ref r3] lkH_LW_167 (c_LW_sirenIn z2 D1 r1 v265 v266 v267 r3) (by decide) (by omega) (by omega) rfl rfl (Nat.le_of_ble_eq_true rfl) d_LW_law_1326 (fun v268 D269 z270 => ?_)
                                              refine z_istore (pc := 1329) d_LW_law_1329 (by decide) (lv' := [(5, .int v268), (0, .ref r0), (1, .ref r1), (2, .ref r2), (3, .ref r3), (4, .int x4)]) rfl ?_
                                              refine z_aload_n (pc := 1331) d_LW_law_1331 rfl 3 rfl ?_
                                              refine z_aload_n (pc := 1332) d_LW_law_1332 rfl 1 rfl ?_
                                              refine z_iload (pc := 1333) d_LW_law_1333 5 rfl ?_
                                              refine z_iconst (pc := 1335) d_LW_law_1335 ki_1 ?_
                                              refine z_iadd (pc := 1336) d_LW_law_1336 ?_
                                              refine z_ialoadR (pc := 1337) d_LW_law_1337 (fun v271 => ?_)
                                              refine z_aload_n (pc := 1338) d_LW_law_1338 rfl 1 rfl ?_
                                              refine z_iload (pc := 1339) d_LW_law_1339 5 rfl ?_
                                              refine z_iconst (pc := 1341) d_LW_law_1341 ki_2 ?_
                                              refine z_iadd (pc := 1342) d_LW_law_1342 ?_
                                              refine z_ialoadR (pc := 1343) d_LW_law_1343 (fun v272 => ?_)
                                              refine z_aload_n (pc := 1344) d_LW_law_1344 rfl 1 rfl ?_
                                              refine z_iload (pc := 1345) d_LW_law_1345 5 rfl ?_
                                              refine z_iconst (pc := 1347) d_LW_law_1347 ki_3 ?_
                                              refine z_iadd (pc := 1348) d_LW_law_1348 ?_
                                              refine z_ialoadR (pc := 1349) d_LW_law_1349 (fun v273 => ?_)
                                              refine z_callVi (pc := 1350) [.int v271, .int v272, .int v273] lkV_LW_169 rfl (c_MD_sirenIn z270 D269 r2 v271 v272 v273) (by decide) rfl rfl (Nat.le_of_ble_eq_true rfl) d_LW_law_1350 (fun v274 D275 => ?_)
                                              refine z_istore (pc := 1353) d_LW_law_1353 (by decide) (lv' := [(6, .int v274), (5, .int v268), (0, .ref r0), (1, .ref r1), (2, .ref r2), (3, .ref r3), (4, .int x4)]) rfl ?_
                                              refine z_aload_n (pc := 1355) d_LW_law_1355 rfl 4 rfl ?_
                                              refine z_callVi (pc := 1356) [] lkV_LW_104 rfl (c_MD_thrown z270 D275 r2 ) (by decide) rfl rfl (Nat.le_of_ble_eq_true rfl) d_LW_law_1356 (fun v276 D277 => ?_)
                                              refine z_iload (pc := 1359) d_LW_law_1359 1 rfl ?_
                                              refine z_icmp_eq (pc := 1361) (tgt := 1366) d_LW_law_1361 (by decide) ?_ ?_
                                              · refine z_jp (fun j1383 : Nat → Nat → Nat → Int32 → zW → zD → Option (Int32) => ∀ (r1 : Nat) (r2 : Nat) (r3 : Nat) (x4 : Int32) (z279 : zT) (D278 : zD), zGO K Y_LW_law 10 601024 7293034 zqL (j1383 r1 r2 r3 x4 z279.2 D278) (n23 * 1 + 0) (n23 * 6 + 0) z279 D278 1383 [(0, .ref r0), (1, .ref r1), (2, .ref r2), (3, .ref r3), (4, .int x4)] []) (fun r1 r2 r3 x4 z279 D278 => ?_) (fun j1383 h1383 => ?_)
                                                · refine z_goto (pc := 1383) (tgt := 1835) d_LW_law_1383 (by decide) ?_
                                                  refine z_kc (by omega) (by omega) (z_sub [0, 1, 2, 3, 4] rfl (h1835 r1 r2 r3 x4 z279 D278))
                                                · refine z_iload (pc := 1366) d_LW_law_1366 1 rfl ?_
                                                  refine z_if_ne (pc := 1368) (tgt := 1383) d_LW_law_1368 (by decide) ?_ ?_
                                                  · refine z_aload_n (pc := 1371) d_LW_law_1371 rfl 5 rfl ?_
                                                    refine z_iconst (pc := 1372) d_LW_law_1372 ki_0 ?_
                                                    refine z_laload (pc := 1373) d_LW_law_1373 (fun v280 => ?_)
                                                    refine z_iload (pc := 1374) d_LW_law_1374 0 rfl ?_
                                                    refine z_i2l (pc := 1376) d_LW_law_1376 ?_
                                                    refine z_lcmp (pc := 1377) d_LW_law_1377 (fun v281 => ?_)
                                                    refine z_if_eq (pc := 1378) (tgt := 1383) d_LW_law_1378 (by decide) ?_ ?_
                                                    · refine z_kc (by omega) (by omega) (z_sub [2, 3, 4, 5, 6] rfl (h1383 r1 r2 r3 x4 z270 D277))
                                                    · refine z_kc (kc' := 0) (ks' := 0) (by omega) (by omega) ?_
                                                      refine z_iconst (pc := 1381) d_LW_law_1381 ki_0 ?_
                                                      exact z_lret (pc := 1382) d_LW_law_1382 rfl (by decide)
                                                  · refine z_kc (by omega) (by omega) (z_sub [2, 3, 4, 5, 6] rfl (h1383 r1 r2 r3 x4 z270 D277))
                                              · refine z_kc (kc' := 0) (ks' := 0) (by omega) (by omega) ?_
                                                refine z_iconst (pc := 1364) d_LW_law_1364 ki_0 ?_
                                                exact z_lret (pc := 1365) d_LW_law_1365 rfl (by decide)
                                            · refine z_case (fun e19 => ?_) (fun e19 => ?_)
                                              · refine z_tableIn (pc := 40) (tgt := 1386) d_LW_law_40 e19 (by decide) (by decide) rfl (by decide) ?_
                                                refine z_aload_n (pc := 1386) d_LW_law_1386 rfl 1 rfl ?_
                                                refine z_aload_n (pc := 1387) d_LW_law_1387 rfl 0 rfl ?_
                                                refine z_iload (pc := 1388) d_LW_law_1388 4 rfl ?_
                                                refine z_iconst (pc := 1390) d_LW_law_1390 ki_1 ?_
                                                refine z_iadd (pc := 1391) d_LW_law_1391 ?_
                                                refine z_ialoadR (pc := 1392) d_LW_law_1392 (fun v282 => ?_)
                                                refine z_aload_n (pc := 1393) d_LW_law_1393 rfl 0 rfl ?_
                                                refine z_iload (pc := 1394) d_LW_law_1394 4 rfl ?_
                                                refine z_iconst (pc := 1396) d_LW_law_1396 ki_2 ?_
                                                refine z_iadd (pc := 1397) d_LW_law_1397 ?_
                                                refine z_ialoadR (pc := 1398) d_LW_law_1398 (fun v283 => ?_)
                                                refine z_aload_n (pc := 1399) d_LW_law_1399 rfl 3 rfl ?_
                                                refine z_callH (pc := 1400) (kc2 := (n23 * 1 + 0)) (ks2 := (n23 * 6 + 0)) [.ref r1, .int v282, .int v283, .ref r3] lkH_LW_170 (c_LW_heardIn z2 D1 r1 v282 v283 r3) (by decide) (by omega) (by omega) rfl rfl (Nat.le_of_ble_eq_true rfl) d_LW_law_1400 (fun v284 D285 z286 => ?_)
                                                refine z_istore (pc := 1403) d_LW_law_1403 (by decide) (lv' := [(5, .int v284), (0, .ref r0), (1, .ref r1), (2, .ref r2), (3, .ref r3), (4, .int x4)]) rfl ?_
                                                refine z_aload_n (pc := 1405) d_LW_law_1405 rfl 3 rfl ?_
                                                refine z_aload_n (pc := 1406) d_LW_law_1406 rfl 1 rfl ?_
                                                refine z_iload (pc := 1407) d_LW_law_1407 5 rfl ?_
                                                refine z_iconst (pc := 1409) d_LW_law_1409 ki_1 ?_
                                                refine z_iadd (pc := 1410) d_LW_law_1410 ?_
                                                refine z_ialoadR (pc := 1411) d_LW_law_1411 (fun v287 => ?_)
                                                refine z_aload_n (pc := 1412) d_LW_law_1412 rfl 1 rfl ?_
                                                refine z_iload (pc := 1413) d_LW_law_1413 5 rfl ?_
                                                refine z_iconst (pc := 1415) d_LW_law_1415 ki_2 ?_
                                                refine z_iadd (pc := 1416) d_LW_law_1416 ?_
                                                refine z_ialoadR (pc := 1417) d_LW_law_1417 (fun v288 => ?_)
                                                refine z_callVi (pc := 1418) [.int v287, .int v288] lkV_LW_172 rfl (c_MD_heardIn z286 D285 r2 v287 v288) (by decide) rfl rfl (Nat.le_of_ble_eq_true rfl) d_LW_law_1418 (fun v289 D290 => ?_)
                                                refine z_istore (pc := 1421) d_LW_law_1421 (by decide) (lv' := [(6, .int v289), (5, .int v284), (0, .ref r0), (1, .ref r1), (2, .ref r2), (3, .ref r3), (4, .int x4)]) rfl ?_
                                                refine z_aload_n (pc := 1423) d_LW_law_1423 rfl 4 rfl ?_
                                                refine z_callVi (pc := 1424) [] lkV_LW_104 rfl (c_MD_thrown z286 D290 r2 ) (by decide) rfl rfl (Nat.le_of_ble_eq_true rfl) d_LW_law_1424 (fun v291 D292 => ?_)
                                                refine z_iload (pc := 1427) d_LW_law_1427 1 rfl ?_
                                                refine z_icmp_eq (pc := 1429) (tgt := 1434) d_LW_law_1429 (by decide) ?_ ?_
                                                · refine z_jp (fun j1451 : Nat → Nat → Nat → Int32 → zW → zD → Option (Int32) => ∀ (r1 : Nat) (r2 : Nat) (r3 : Nat) (x4 : Int32) (z294 : zT) (D293 : zD), zGO K Y_LW_law 10 601024 7293034 zqL (j1451 r1 r2 r3 x4 z294.2 D293) (n23 * 1 + 0) (n23 * 6 + 0) z294 D293 1451 [(0, .ref r0), (1, .ref r1), (2, .ref r2), (3, .ref r3), (4, .int x4)] []) (fun r1 r2 r3 x4 z294 D293 => ?_) (fun j1451 h1451 => ?_)
                                                  · refine z_goto (pc := 1451) (tgt := 1835) d_LW_law_1451 (by decide) ?_
                                                    refine z_kc (by omega) (by omega) (z_sub [0, 1, 2, 3, 4] rfl (h1835 r1 r2 r3 x4 z294 D293))
                                                  · refine z_iload (pc := 1434) d_LW_law_1434 1 rfl ?_
                                                    refine z_if_ne (pc := 1436) (tgt := 1451) d_LW_law_1436 (by decide) ?_ ?_
                                                    · refine z_aload_n (pc := 1439) d_LW_law_1439 rfl 5 rfl ?_
                                                      refine z_iconst (pc := 1440) d_LW_law_1440 ki_0 ?_
                                                      refine z_laload (pc := 1441) d_LW_law_1441 (fun v295 => ?_)
                                                      refine z_iload (pc := 1442) d_LW_law_1442 0 rfl ?_
                                                      refine z_i2l (pc := 1444) d_LW_law_1444 ?_
                                                      refine z_lcmp (pc := 1445) d_LW_law_1445 (fun v296 => ?_)
                                                      refine z_if_eq (pc := 1446) (tgt := 1451) d_LW_law_1446 (by decide) ?_ ?_
                                                      · refine z_kc (by omega) (by omega) (z_sub [2, 3, 4, 5, 6] rfl (h1451 r1 r2 r3 x4 z286 D292))
                                                      · refine z_kc (kc' := 0) (ks' := 0) (by omega) (by omega) ?_
                                                        refine z_iconst (pc := 1449) d_LW_law_1449 ki_0 ?_
                                                        exact z_lret (pc := 1450) d_LW_law_1450 rfl (by decide)
                                                    · refine z_kc (by omega) (by omega) (z_sub [2, 3, 4, 5, 6] rfl (h1451 r1 r2 r3 x4 z286 D292))
                                                · refine z_kc (kc' := 0) (ks' := 0) (by omega) (by omega) ?_
                                                  refine z_iconst (pc := 1432) d_LW_law_1432 ki_0 ?_
                                                  exact z_lret (pc := 1433) d_LW_law_1433 rfl (by decide)
                                              · refine z_case (fun e20 => ?_) (fun e20 => ?_)
                                                · refine z_tableIn (pc := 40) (tgt := 1454) d_LW_law_40 e20 (by decide) (by decide) rfl (by decide) ?_
                                                  refine z_aload_n (pc := 1454) d_LW_law_1454 rfl 1 rfl ?_
                                                  refine z_callVi (pc := 1455) [] lkV_LW_173 rfl (c_SF_quietIn z2 D1 r1 ) (by decide) rfl rfl (Nat.le_of_ble_eq_true rfl) d_LW_law_1455 (fun v297 D298 => ?_)
                                                  refine z_aload_n (pc := 1458) d_LW_law_1458 rfl 2 rfl ?_
                                                  refine z_callVi (pc := 1459) [] lkV_LW_176 rfl (c_MD_quietIn z2 D298 r2 ) (by decide) rfl rfl (Nat.le_of_ble_eq_true rfl) d_LW_law_1459 (fun v299 D300 => ?_)
                                                  refine z_icmp_eq (pc := 1462) (tgt := 1835) d_LW_law_1462 (by decide) ?_ ?_
                                                  · refine z_kc (by omega) (by omega) (z_sub [0, 1, 2, 3, 4] rfl (h1835 r1 r2 r3 x4 z2 D300))
                                                  · refine z_kc (kc' := 0) (ks' := 0) (by omega) (by omega) ?_
                                                    refine z_iconst (pc := 1465) d_LW_law_1465 ki_0 ?_
                                                    exact z_lret (pc := 1466) d_LW_law_1466 rfl (by decide)
                                                · refine z_case (fun e21 => ?_) (fun e21 => ?_)
                                                  · refine z_tableIn (pc := 40) (tgt := 1467) d_LW_law_40 e21 (by decide) (by decide) rfl (by decide) ?_
                                                    refine z_aload_n (pc := 1467) d_LW_law_1467 rfl 1 rfl ?_
                                                    refine z_aload_n (pc := 1468) d_LW_law_1468 rfl 0 rfl ?_
                                                    refine z_iload (pc := 1469) d_LW_law_1469 4 rfl ?_
                                                    refine z_iconst (pc := 1471) d_LW_law_1471 ki_1 ?_
                                                    refine z_iadd (pc := 1472) d_LW_law_1472 ?_
                                                    refine z_ialoadR (pc := 1473) d_LW_law_1473 (fun v301 => ?_)
                                                    refine z_aload_n (pc := 1474) d_LW_law_1474 rfl 3 rfl ?_
                                                    refine z_callH (pc := 1475) (kc2 := (n23 * 1 + 0)) (ks2 := (n23 * 6 + 0)) [.ref r1, .int v301, .ref r3] lkH_LW_177 (c_LW_leastSpeed z2 D1 r1 v301 r3) (by decide) (by omega) (by omega) rfl rfl (Nat.le_of_ble_eq_true rfl) d_LW_law_1475 (fun v302 D303 z304 => ?_)
                                                    refine z_istore (pc := 1478) d_LW_law_1478 (by decide) (lv' := [(5, .int v302), (0, .ref r0), (1, .ref r1), (2, .ref r2), (3, .ref r3), (4, .int x4)]) rfl ?_
                                                    refine z_aload_n (pc := 1480) d_LW_law_1480 rfl 3 rfl ?_
                                                    refine z_aload_n (pc := 1481) d_LW_law_1481 rfl 1 rfl ?_
                                                    refine z_iload (pc := 1482) d_LW_law_1482 5 rfl ?_
                                                    refine z_iconst (pc := 1484) d_LW_law_1484 ki_1 ?_
                                                    refine z_iadd (pc := 1485) d_LW_law_1485 ?_
                                                    refine z_ialoadR (pc := 1486) d_LW_law_1486 (fun v305 => ?_)
                                                    refine z_callVi (pc := 1487) [.int v305] lkV_LW_179 rfl (c_MD_leastSpeed z304 D303 r2 v305) (by decide) rfl rfl (Nat.le_of_ble_eq_true rfl) d_LW_law_1487 (fun v306 D307 => ?_)
                                                    refine z_istore (pc := 1490) d_LW_law_1490 (by decide) (lv' := [(6, .int v306), (5, .int v302), (0, .ref r0), (1, .ref r1), (2, .ref r2), (3, .ref r3), (4, .int x4)]) rfl ?_
                                                    refine z_aload_n (pc := 1492) d_LW_law_1492 rfl 4 rfl ?_
                                                    refine z_callVi (pc := 1493) [] lkV_LW_104 rfl (c_MD_thrown z304 D307 r2 ) (by decide) rfl rfl (Nat.le_of_ble_eq_true rfl) d_LW_law_1493 (fun v308 D309 => ?_)
                                                    refine z_iload (pc := 1496) d_LW_law_1496 1 rfl ?_
                                                    refine z_icmp_eq (pc := 1498) (tgt := 1503) d_LW_law_1498 (by decide) ?_ ?_
                                                    · refine z_jp (fun j1520 : Nat → Nat → Nat → Int32 → zW → zD → Option (Int32) => ∀ (r1 : Nat) (r2 : Nat) (r3 : Nat) (x4 : Int32) (z311 : zT) (D310 : zD), zGO K Y_LW_law 10 601024 7293034 zqL (j1520 r1 r2 r3 x4 z311.2 D310) (n23 * 1 + 0) (n23 * 6 + 0) z311 D310 1520 [(0, .ref r0), (1, .ref r1), (2, .ref r2), (3, .ref r3), (4, .int x4)] []) (fun r1 r2 r3 x4 z311 D310 => ?_) (fun j1520 h1520 => ?_)
                                                      · refine z_goto (pc := 1520) (tgt := 1835) d_LW_law_1520 (by decide) ?_
                                                        refine z_kc (by omega) (by omega) (z_sub [0, 1, 2, 3, 4] rfl (h1835 r1 r2 r3 x4 z311 D310))
                                                      · refine z_iload (pc := 1503) d_LW_law_1503 1 rfl ?_
                                                        refine z_if_ne (pc := 1505) (tgt := 1520) d_LW_law_1505 (by decide) ?_ ?_
                                                        · refine z_aload_n (pc := 1508) d_LW_law_1508 rfl 5 rfl ?_
                                                          refine z_iconst (pc := 1509) d_LW_law_1509 ki_0 ?_
                                                          refine z_laload (pc := 1510) d_LW_law_1510 (fun v312 => ?_)
                                                          refine z_iload (pc := 1511) d_LW_law_1511 0 rfl ?_
                                                          refine z_i2l (pc := 1513) d_LW_law_1513 ?_
                                                          refine z_lcmp (pc := 1514) d_LW_law_1514 (fun v313 => ?_)
                                                          refine z_if_eq (pc := 1515) (tgt := 1520) d_LW_law_1515 (by decide) ?_ ?_
                                                          · refine z_kc (by omega) (by omega) (z_sub [2, 3, 4, 5, 6] rfl (h1520 r1 r2 r3 x4 z304 D309))
                                                          · refine z_kc (kc' := 0) (ks' := 0) (by omega) (by omega) ?_
                                                            refine z_iconst (pc := 1518) d_LW_law_1518 ki_0 ?_
                                                            exact z_lret (pc := 1519) d_LW_law_1519 rfl (by decide)
                                                        · refine z_kc (by omega) (by omega) (z_sub [2, 3, 4, 5, 6] rfl (h1520 r1 r2 r3 x4 z304 D309))
                                                    · refine z_kc (kc' := 0) (ks' := 0) (by omega) (by omega) ?_
                                                      refine z_iconst (pc := 1501) d_LW_law_1501 ki_0 ?_
                                                      exact z_lret (pc := 1502) d_LW_law_1502 rfl (by decide)
                                                  · refine z_case (fun e22 => ?_) (fun e22 => ?_)
                                                    · refine z_tableIn (pc := 40) (tgt := 1523) d_LW_law_40 e22 (by decide) (by decide) rfl (by decide) ?_
                                                      refine z_aload_n (pc := 1523) d_LW_law_1523 rfl 1 rfl ?_
                                                      refine z_aload_n (pc := 1524) d_LW_law_1524 rfl 0 rfl ?_
                                                      refine z_iload (pc := 1525) d_LW_law_1525 4 rfl ?_
                                                      refine z_iconst (pc := 1527) d_LW_law_1527 ki_1 ?_
                                                      refine z_iadd (pc := 1528) d_LW_law_1528 ?_
                                                      refine z_ialoadR (pc := 1529) d_LW_law_1529 (fun v314 => ?_)
                                                      refine z_aload_n (pc := 1530) d_LW_law_1530 rfl 0 rfl ?_
                                                      refine z_iload (pc := 1531) d_LW_law_1531 4 rfl ?_
                                                      refine z_iconst (pc := 1533) d_LW_law_1533 ki_2 ?_
                                                      refine z_iadd (pc := 1534) d_LW_law_1534 ?_
                                                      refine z_ialoadR (pc := 1535) d_LW_law_1535 (fun v315 => ?_)
                                                      refine z_i2l (pc := 1536) d_LW_law_1536 ?_
                                                      refine z_bipush (pc := 1537) d_LW_law_1537 kb_32 ?_
                                                      refine z_lshl (pc := 1539) d_LW_law_1539 ?_
                                                      refine z_aload_n (pc := 1540) d_LW_law_1540 rfl 0 rfl ?_
                                                      refine z_iload (pc := 1541) d_LW_law_1541 4 rfl ?_
                                                      refine z_iconst (pc := 1543) d_LW_law_1543 ki_3 ?_
                                                      refine z_iadd (pc := 1544) d_LW_law_1544 ?_
                                                      refine z_ialoadR (pc := 1545) d_LW_law_1545 (fun v316 => ?_)
                                                      refine z_i2l (pc := 1546) d_LW_law_1546 ?_
                                                      refine z_ldc2 (pc := 1547) w_k_LW_180 d_LW_law_1547 ?_
                                                      refine z_land (pc := 1550) d_LW_law_1550 ?_
                                                      refine z_lor (pc := 1551) d_LW_law_1551 ?_
                                                      refine z_aload_n (pc := 1552) d_LW_law_1552 rfl 3 rfl ?_
                                                      refine z_callH (pc := 1553) (kc2 := (n23 * 1 + 0)) (ks2 := (n23 * 6 + 0)) [.ref r1, .int v314, .long ((v315.toInt64 <<< ((32 : Int32).toInt64 &&& 63)) ||| (v316.toInt64 &&& (4294967295 : Int64))), .ref r3] lkH_LW_182 (c_LW_runScript z2 D1 r1 v314 ((v315.toInt64 <<< ((32 : Int32).toInt64 &&& 63)) ||| (v316.toInt64 &&& (4294967295 : Int64))) r3) (by decide) (by omega) (by omega) rfl rfl (Nat.le_of_ble_eq_true rfl) d_LW_law_1553 (fun v317 D318 z319 => ?_)
                                                      refine z_istore (pc := 1556) d_LW_law_1556 (by decide) (lv' := [(5, .int v317), (0, .ref r0), (1, .ref r1), (2, .ref r2), (3, .ref r3), (4, .int x4)]) rfl ?_
                                                      refine z_aload_n (pc := 1558) d_LW_law_1558 rfl 3 rfl ?_
                                                      refine z_aload_n (pc := 1559) d_LW_law_1559 rfl 1 rfl ?_
                                                      refine z_iload (pc := 1560) d_LW_law_1560 5 rfl ?_
                                                      refine z_iconst (pc := 1562) d_LW_law_1562 ki_1 ?_
                                                      refine z_iadd (pc := 1563) d_LW_law_1563 ?_
                                                      refine z_ialoadR (pc := 1564) d_LW_law_1564 (fun v320 => ?_)
                                                      refine z_aload_n (pc := 1565) d_LW_law_1565 rfl 1 rfl ?_
                                                      refine z_iload (pc := 1566) d_LW_law_1566 5 rfl ?_
                                                      refine z_iconst (pc := 1568) d_LW_law_1568 ki_2 ?_
                                                      refine z_iadd (pc := 1569) d_LW_law_1569 ?_
                                                      refine z_ialoadR (pc := 1570) d_LW_law_1570 (fun v321 => ?_)
                                                      refine z_i2l (pc := 1571) d_LW_law_1571 ?_
                                                      refine z_bipush (pc := 1572) d_LW_law_1572 kb_32 ?_
                                                      refine z_lshl (pc := 1574) d_LW_law_1574 ?_
                                                      refine z_aload_n (pc := 1575) d_LW_law_1575 rfl 1 rfl ?_
                                                      refine z_iload (pc := 1576) d_LW_law_1576 5 rfl ?_
                                                      refine z_iconst (pc := 1578) d_LW_law_1578 ki_3 ?_
                                                      refine z_iadd (pc := 1579) d_LW_law_1579 ?_
                                                      refine z_ialoadR (pc := 1580) d_LW_law_1580 (fun v322 => ?_)
                                                      refine z_i2l (pc := 1581) d_LW_law_1581 ?_
                                                      refine z_ldc2 (pc := 1582) w_k_LW_180 d_LW_law_1582 ?_
                                                      refine z_land (pc := 1585) d_LW_law_1585 ?_
                                                      refine z_lor (pc := 1586) d_LW_law_1586 ?_
                                                      refine z_callVi (pc := 1587) [.int v320, .long ((v321.toInt64 <<< ((32 : Int32).toInt64 &&& 63)) ||| (v322.toInt64 &&& (4294967295 : Int64)))] lkV_LW_185 rfl (c_MD_runScript z319 D318 r2 v320 ((v321.toInt64 <<< ((32 : Int32).toInt64 &&& 63)) ||| (v322.toInt64 &&& (4294967295 : Int64)))) (by decide) rfl rfl (Nat.le_of_ble_eq_true rfl) d_LW_law_1587 (fun v323 D324 => ?_)
                                                      refine z_istore (pc := 1590) d_LW_law_1590 (by decide) (lv' := [(6, .int v323), (5, .int v317), (0, .ref r0), (1, .ref r1), (2, .ref r2), (3, .ref r3), (4, .int x4)]) rfl ?_
                                                      refine z_aload_n (pc := 1592) d_LW_law_1592 rfl 4 rfl ?_
                                                      refine z_callVi (pc := 1593) [] lkV_LW_104 rfl (c_MD_thrown z319 D324 r2 ) (by decide) rfl rfl (Nat.le_of_ble_eq_true rfl) d_LW_law_1593 (fun v325 D326 => ?_)
                                                      refine z_iload (pc := 1596) d_LW_law_1596 1 rfl ?_
                                                      refine z_icmp_eq (pc := 1598) (tgt := 1603) d_LW_law_1598 (by decide) ?_ ?_
                                                      · refine z_jp (fun j1620 : Nat → Nat → Nat → Int32 → zW → zD → Option (Int32) => ∀ (r1 : Nat) (r2 : Nat) (r3 : Nat) (x4 : Int32) (z328 : zT) (D327 : zD), zGO K Y_LW_law 10 601024 7293034 zqL (j1620 r1 r2 r3 x4 z328.2 D327) (n23 * 1 + 0) (n23 * 6 + 0) z328 D327 1620 [(0, .ref r0), (1, .ref r1), (2, .ref r2), (3, .ref r3), (4, .int x4)] []) (fun r1 r2 r3 x4 z328 D327 => ?_) (fun j1620 h1620 => ?_)
                                                        · refine z_goto (pc := 1620) (tgt := 1835) d_LW_law_1620 (by decide) ?_
                                                          refine z_kc (by omega) (by omega) (z_sub [0, 1, 2, 3, 4] rfl (h1835 r1 r2 r3 x4 z328 D327))
                                                        · refine z_iload (pc := 1603) d_LW_law_1603 1 rfl ?_
                                                          refine z_if_ne (pc := 1605) (tgt := 1620) d_LW_law_1605 (by decide) ?_ ?_
                                                          · refine z_aload_n (pc := 1608) d_LW_law_1608 rfl 5 rfl ?_
                                                            refine z_iconst (pc := 1609) d_LW_law_1609 ki_0 ?_
                                                            refine z_laload (pc := 1610) d_LW_law_1610 (fun v329 => ?_)
                                                            refine z_iload (pc := 1611) d_LW_law_1611 0 rfl ?_
                                                            refine z_i2l (pc := 1613) d_LW_law_1613 ?_
                                                            refine z_lcmp (pc := 1614) d_LW_law_1614 (fun v330 => ?_)
                                                            refine z_if_eq (pc := 1615) (tgt := 1620) d_LW_law_1615 (by decide) ?_ ?_
                                                            · refine z_kc (by omega) (by omega) (z_sub [2, 3, 4, 5, 6] rfl (h1620 r1 r2 r3 x4 z319 D326))
                                                            · refine z_kc (kc' := 0) (ks' := 0) (by omega) (by omega) ?_
                                                              refine z_iconst (pc := 1618) d_LW_law_1618 ki_0 ?_
                                                              exact z_lret (pc := 1619) d_LW_law_1619 rfl (by decide)
                                                          · refine z_kc (by omega) (by omega) (z_sub [2, 3, 4, 5, 6] rfl (h1620 r1 r2 r3 x4 z319 D326))
                                                      · refine z_kc (kc' := 0) (ks' := 0) (by omega) (by omega) ?_
                                                        refine z_iconst (pc := 1601) d_LW_law_1601 ki_0 ?_
                                                        exact z_lret (pc := 1602) d_LW_law_1602 rfl (by decide)
                                                    · refine z_case (fun e23 => ?_) (fun e23 => ?_)
                                                      · refine z_tableIn (pc := 40) (tgt := 1623) d_LW_law_40 e23 (by decide) (by decide) rfl (by decide) ?_
                                                        refine z_aload_n (pc := 1623) d_LW_law_1623 rfl 1 rfl ?_
                                                        refine z_aload_n (pc := 1624) d_LW_law_1624 rfl 0 rfl ?_
                                                        refine z_iload (pc := 1625) d_LW_law_1625 4 rfl ?_
                                                        refine z_iconst (pc := 1627) d_LW_law_1627 ki_1 ?_
                                                        refine z_iadd (pc := 1628) d_LW_law_1628 ?_
                                                        refine z_ialoadR (pc := 1629) d_LW_law_1629 (fun v331 => ?_)
                                                        refine z_i2l (pc := 1630) d_LW_law_1630 ?_
                                                        refine z_bipush (pc := 1631) d_LW_law_1631 kb_32 ?_
                                                        refine z_lshl (pc := 1633) d_LW_law_1633 ?_
                                                        refine z_aload_n (pc := 1634) d_LW_law_1634 rfl 0 rfl ?_
                                                        refine z_iload (pc := 1635) d_LW_law_1635 4 rfl ?_
                                                        refine z_iconst (pc := 1637) d_LW_law_1637 ki_2 ?_
                                                        refine z_iadd (pc := 1638) d_LW_law_1638 ?_
                                                        refine z_ialoadR (pc := 1639) d_LW_law_1639 (fun v332 => ?_)
                                                        refine z_i2l (pc := 1640) d_LW_law_1640 ?_
                                                        refine z_ldc2 (pc := 1641) w_k_LW_180 d_LW_law_1641 ?_
                                                        refine z_land (pc := 1644) d_LW_law_1644 ?_
                                                        refine z_lor (pc := 1645) d_LW_law_1645 ?_
                                                        refine z_aload_n (pc := 1646) d_LW_law_1646 rfl 0 rfl ?_
                                                        refine z_iload (pc := 1647) d_LW_law_1647 4 rfl ?_
                                                        refine z_iconst (pc := 1649) d_LW_law_1649 ki_3 ?_
                                                        refine z_iadd (pc := 1650) d_LW_law_1650 ?_
                                                        refine z_ialoadR (pc := 1651) d_LW_law_1651 (fun v333 => ?_)
                                                        refine z_aload_n (pc := 1652) d_LW_law_1652 rfl 3 rfl ?_
                                                        refine z_callH (pc := 1653) (kc2 := (n23 * 1 + 0)) (ks2 := (n23 * 6 + 0)) [.ref r1, .long ((v331.toInt64 <<< ((32 : Int32).toInt64 &&& 63)) ||| (v332.toInt64 &&& (4294967295 : Int64))), .int v333, .ref r3] lkH_LW_186 (c_LW_simulate z2 D1 r1 ((v331.toInt64 <<< ((32 : Int32).toInt64 &&& 63)) ||| (v332.toInt64 &&& (4294967295 : Int64))) v333 r3) (by decide) (by omega) (by omega) rfl rfl (Nat.le_of_ble_eq_true rfl) d_LW_law_1653 (fun v334 D335 z336 => ?_)
                                                        refine z_istore (pc := 1656) d_LW_law_1656 (by decide) (lv' := [(5, .int v334), (0, .ref r0), (1, .ref r1), (2, .ref r2), (3, .ref r3), (4, .int x4)]) rfl ?_
                                                        refine z_aload_n (pc := 1658) d_LW_law_1658 rfl 3 rfl ?_
                                                        refine z_aload_n (pc := 1659) d_LW_law_1659 rfl 1 rfl ?_
                                                        refine z_iload (pc := 1660) d_LW_law_1660 5 rfl ?_
                                                        refine z_iconst (pc := 1662) d_LW_law_1662 ki_1 ?_
                                                        refine z_iadd (pc := 1663) d_LW_law_1663 ?_
                                                        refine z_ialoadR (pc := 1664) d_LW_law_1664 (fun v337 => ?_)
                                                        refine z_i2l (pc := 1665) d_LW_law_1665 ?_
                                                        refine z_bipush (pc := 1666) d_LW_law_1666 kb_32 ?_
                                                        refine z_lshl (pc := 1668) d_LW_law_1668 ?_
                                                        refine z_aload_n (pc := 1669) d_LW_law_1669 rfl 1 rfl ?_
                                                        refine z_iload (pc := 1670) d_LW_law_1670 5 rfl ?_
                                                        refine z_iconst (pc := 1672) d_LW_law_1672 ki_2 ?_
                                                        refine z_iadd (pc := 1673) d_LW_law_1673 ?_
                                                        refine z_ialoadR (pc := 1674) d_LW_law_1674 (fun v338 => ?_)
                                                        refine z_i2l (pc := 1675) d_LW_law_1675 ?_
                                                        refine z_ldc2 (pc := 1676) w_k_LW_180 d_LW_law_1676 ?_
                                                        refine z_land (pc := 1679) d_LW_law_1679 ?_
                                                        refine z_lor (pc := 1680) d_LW_law_1680 ?_
                                                        refine z_aload_n (pc := 1681) d_LW_law_1681 rfl 1 rfl ?_
                                                        refine z_iload (pc := 1682) d_LW_law_1682 5 rfl ?_
                                                        refine z_iconst (pc := 1684) d_LW_law_1684 ki_3 ?_
                                                        refine z_iadd (pc := 1685) d_LW_law_1685 ?_
                                                        refine z_ialoadR (pc := 1686) d_LW_law_1686 (fun v339 => ?_)
                                                        refine z_callVi (pc := 1687) [.long ((v337.toInt64 <<< ((32 : Int32).toInt64 &&& 63)) ||| (v338.toInt64 &&& (4294967295 : Int64))), .int v339] lkV_LW_189 rfl (c_MD_simulate z336 D335 r2 ((v337.toInt64 <<< ((32 : Int32).toInt64 &&& 63)) ||| (v338.toInt64 &&& (4294967295 : Int64))) v339) (by decide) rfl rfl (Nat.le_of_ble_eq_true rfl) d_LW_law_1687 (fun v340 D341 => ?_)
                                                        refine z_istore (pc := 1690) d_LW_law_1690 (by decide) (lv' := [(6, .int v340), (5, .int v334), (0, .ref r0), (1, .ref r1), (2, .ref r2), (3, .ref r3), (4, .int x4)]) rfl ?_
                                                        refine z_aload_n (pc := 1692) d_LW_law_1692 rfl 4 rfl ?_
                                                        refine z_callVi (pc := 1693) [] lkV_LW_104 rfl (c_MD_thrown z336 D341 r2 ) (by decide) rfl rfl (Nat.le_of_ble_eq_true rfl) d_LW_law_1693 (fun v342 D343 => ?_)
                                                        refine z_iload (pc := 1696) d_LW_law_1696 1 rfl ?_
                                                        refine z_icmp_eq (pc := 1698) (tgt := 1703) d_LW_law_1698 (by decide) ?_ ?_
                                                        · refine z_jp (fun j1720 : Nat → Nat → Nat → Int32 → zW → zD → Option (Int32) => ∀ (r1 : Nat) (r2 : Nat) (r3 : Nat) (x4 : Int32) (z345 : zT) (D344 : zD), zGO K Y_LW_law 10 601024 7293034 zqL (j1720 r1 r2 r3 x4 z345.2 D344) (n23 * 1 + 0) (n23 * 6 + 0) z345 D344 1720 [(0, .ref r0), (1, .ref r1), (2, .ref r2), (3, .ref r3), (4, .int x4)] []) (fun r1 r2 r3 x4 z345 D344 => ?_) (fun j1720 h1720 => ?_)
                                                          · refine z_goto (pc := 1720) (tgt := 1835) d_LW_law_1720 (by decide) ?_
                                                            refine z_kc (by omega) (by omega) (z_sub [0, 1, 2, 3, 4] rfl (h1835 r1 r2 r3 x4 z345 D344))
                                                          · refine z_iload (pc := 1703) d_LW_law_1703 1 rfl ?_
                                                            refine z_if_ne (pc := 1705) (tgt := 1720) d_LW_law_1705 (by decide) ?_ ?_
                                                            · refine z_aload_n (pc := 1708) d_LW_law_1708 rfl 5 rfl ?_
                                                              refine z_iconst (pc := 1709) d_LW_law_1709 ki_0 ?_
                                                              refine z_laload (pc := 1710) d_LW_law_1710 (fun v346 => ?_)
                                                              refine z_iload (pc := 1711) d_LW_law_1711 0 rfl ?_
                                                              refine z_i2l (pc := 1713) d_LW_law_1713 ?_
                                                              refine z_lcmp (pc := 1714) d_LW_law_1714 (fun v347 => ?_)
                                                              refine z_if_eq (pc := 1715) (tgt := 1720) d_LW_law_1715 (by decide) ?_ ?_
                                                              · refine z_kc (by omega) (by omega) (z_sub [2, 3, 4, 5, 6] rfl (h1720 r1 r2 r3 x4 z336 D343))
                                                              · refine z_kc (kc' := 0) (ks' := 0) (by omega) (by omega) ?_
                                                                refine z_iconst (pc := 1718) d_LW_law_1718 ki_0 ?_
                                                                exact z_lret (pc := 1719) d_LW_law_1719 rfl (by decide)
                                                            · refine z_kc (by omega) (by omega) (z_sub [2, 3, 4, 5, 6] rfl (h1720 r1 r2 r3 x4 z336 D343))
                                                        · refine z_kc (kc' := 0) (ks' := 0) (by omega) (by omega) ?_
                                                          refine z_iconst (pc := 1701) d_LW_law_1701 ki_0 ?_
                                                          exact z_lret (pc := 1702) d_LW_law_1702 rfl (by decide)
                                                      · refine z_case (fun e24 => ?_) (fun e24 => ?_)
                                                        · refine z_tableIn (pc := 40) (tgt := 1723) d_LW_law_40 e24 (by decide) (by decide) rfl (by decide) ?_
                                                          refine z_aload_n (pc := 1723) d_LW_law_1723 rfl 1 rfl ?_
                                                          refine z_aload_n (pc := 1724) d_LW_law_1724 rfl 0 rfl ?_
                                                          refine z_iload (pc := 1725) d_LW_law_1725 4 rfl ?_
                                                          refine z_iconst (pc := 1727) d_LW_law_1727 ki_1 ?_
                                                          refine z_iadd (pc := 1728) d_LW_law_1728 ?_
                                                          refine z_ialoadR (pc := 1729) d_LW_law_1729 (fun v348 => ?_)
                                                          refine z_aload_n (pc := 1730) d_LW_law_1730 rfl 3 rfl ?_
                                                          refine z_callH (pc := 1731) (kc2 := (n23 * 1 + 0)) (ks2 := (n23 * 6 + 0)) [.ref r1, .int v348, .ref r3] lkH_LW_190 (c_LW_save z2 D1 r1 v348 r3) (by decide) (by omega) (by omega) rfl rfl (Nat.le_of_ble_eq_true rfl) d_LW_law_1731 (fun v349 D350 z351 => ?_)
                                                          refine z_istore (pc := 1734) d_LW_law_1734 (by decide) (lv' := [(5, .int v349), (0, .ref r0), (1, .ref r1), (2, .ref r2), (3, .ref r3), (4, .int x4)]) rfl ?_
                                                          refine z_aload_n (pc := 1736) d_LW_law_1736 rfl 3 rfl ?_
                                                          refine z_aload_n (pc := 1737) d_LW_law_1737 rfl 1 rfl ?_
                                                          refine z_iload (pc := 1738) d_LW_law_1738 5 rfl ?_
                                                          refine z_iconst (pc := 1740) d_LW_law_1740 ki_1 ?_
                                                          refine z_iadd (pc := 1741) d_LW_law_1741 ?_
                                                          refine z_ialoadR (pc := 1742) d_LW_law_1742 (fun v352 => ?_)
                                                          refine z_callVi (pc := 1743) [.int v352] lkV_LW_192 rfl (c_MD_save z351 D350 r2 v352) (by decide) rfl rfl (Nat.le_of_ble_eq_true rfl) d_LW_law_1743 (fun v353 D354 => ?_)
                                                          refine z_istore (pc := 1746) d_LW_law_1746 (by decide) (lv' := [(6, .int v353), (5, .int v349), (0, .ref r0), (1, .ref r1), (2, .ref r2), (3, .ref r3), (4, .int x4)]) rfl ?_
                                                          refine z_aload_n (pc := 1748) d_LW_law_1748 rfl 4 rfl ?_
                                                          refine z_callVi (pc := 1749) [] lkV_LW_104 rfl (c_MD_thrown z351 D354 r2 ) (by decide) rfl rfl (Nat.le_of_ble_eq_true rfl) d_LW_law_1749 (fun v355 D356 => ?_)
                                                          refine z_iload (pc := 1752) d_LW_law_1752 1 rfl ?_
                                                          refine z_icmp_eq (pc := 1754) (tgt := 1759) d_LW_law_1754 (by decide) ?_ ?_
                                                          · refine z_jp (fun j1776 : Nat → Nat → Nat → Int32 → zW → zD → Option (Int32) => ∀ (r1 : Nat) (r2 : Nat) (r3 : Nat) (x4 : Int32) (z358 : zT) (D357 : zD), zGO K Y_LW_law 10 601024 7293034 zqL (j1776 r1 r2 r3 x4 z358.2 D357) (n23 * 1 + 0) (n23 * 6 + 0) z358 D357 1776 [(0, .ref r0), (1, .ref r1), (2, .ref r2), (3, .ref r3), (4, .int x4)] []) (fun r1 r2 r3 x4 z358 D357 => ?_) (fun j1776 h1776 => ?_)
                                                            · refine z_goto (pc := 1776) (tgt := 1835) d_LW_law_1776 (by decide) ?_
                                                              refine z_kc (by omega) (by omega) (z_sub [0, 1, 2, 3, 4] rfl (h1835 r1 r2 r3 x4 z358 D357))
                                                            · refine z_iload (pc := 1759) d_LW_law_1759 1 rfl ?_
                                                              refine z_if_ne (pc := 1761) (tgt := 1776) d_LW_law_1761 (by decide) ?_ ?_
                                                              · refine z_aload_n (pc := 1764) d_LW_law_1764 rfl 5 rfl ?_
                                                                refine z_iconst (pc := 1765) d_LW_law_1765 ki_0 ?_
                                                                refine z_laload (pc := 1766) d_LW_law_1766 (fun v359 => ?_)
                                                                refine z_iload (pc := 1767) d_LW_law_1767 0 rfl ?_
                                                                refine z_i2l (pc := 1769) d_LW_law_1769 ?_
                                                                refine z_lcmp (pc := 1770) d_LW_law_1770 (fun v360 => ?_)
                                                                refine z_if_eq (pc := 1771) (tgt := 1776) d_LW_law_1771 (by decide) ?_ ?_
                                                                · refine z_kc (by omega) (by omega) (z_sub [2, 3, 4, 5, 6] rfl (h1776 r1 r2 r3 x4 z351 D356))
                                                                · refine z_kc (kc' := 0) (ks' := 0) (by omega) (by omega) ?_
                                                                  refine z_iconst (pc := 1774) d_LW_law_1774 ki_0 ?_
                                                                  exact z_lret (pc := 1775) d_LW_law_1775 rfl (by decide)
                                                              · refine z_kc (by omega) (by omega) (z_sub [2, 3, 4, 5, 6] rfl (h1776 r1 r2 r3 x4 z351 D356))
                                                          · refine z_kc (kc' := 0) (ks' := 0) (by omega) (by omega) ?_
                                                            refine z_iconst (pc := 1757) d_LW_law_1757 ki_0 ?_
                                                            exact z_lret (pc := 1758) d_LW_law_1758 rfl (by decide)
                                                        · refine z_case (fun e25 => ?_) (fun e25 => ?_)
                                                          · refine z_tableIn (pc := 40) (tgt := 1779) d_LW_law_40 e25 (by decide) (by decide) rfl (by decide) ?_
                                                            refine z_aload_n (pc := 1779) d_LW_law_1779 rfl 1 rfl ?_
                                                            refine z_aload_n (pc := 1780) d_LW_law_1780 rfl 0 rfl ?_
                                                            refine z_iload (pc := 1781) d_LW_law_1781 4 rfl ?_
                                                            refine z_iconst (pc := 1783) d_LW_law_1783 ki_1 ?_
                                                            refine z_iadd (pc := 1784) d_LW_law_1784 ?_
                                                            refine z_ialoadR (pc := 1785) d_LW_law_1785 (fun v361 => ?_)
                                                            refine z_aload_n (pc := 1786) d_LW_law_1786 rfl 3 rfl ?_
                                                            refine z_callH (pc := 1787) (kc2 := (n23 * 1 + 0)) (ks2 := (n23 * 6 + 0)) [.ref r1, .int v361, .ref r3] lkH_LW_193 (c_LW_restore z2 D1 r1 v361 r3) (by decide) (by omega) (by omega) rfl rfl (Nat.le_of_ble_eq_true rfl) d_LW_law_1787 (fun v362 D363 z364 => ?_)
                                                            refine z_istore (pc := 1790) d_LW_law_1790 (by decide) (lv' := [(5, .int v362), (0, .ref r0), (1, .ref r1), (2, .ref r2), (3, .ref r3), (4, .int x4)]) rfl ?_
                                                            refine z_aload_n (pc := 1792) d_LW_law_1792 rfl 3 rfl ?_
                                                            refine z_aload_n (pc := 1793) d_LW_law_1793 rfl 1 rfl ?_
                                                            refine z_iload (pc := 1794) d_LW_law_1794 5 rfl ?_
                                                            refine z_iconst (pc := 1796) d_LW_law_1796 ki_1 ?_
                                                            refine z_iadd (pc := 1797) d_LW_law_1797 ?_
                                                            refine z_ialoadR (pc := 1798) d_LW_law_1798 (fun v365 => ?_)
                                                            refine z_callVi (pc := 1799) [.int v365] lkV_LW_195 rfl (c_MD_restore z364 D363 r2 v365) (by decide) rfl rfl (Nat.le_of_ble_eq_true rfl) d_LW_law_1799 (fun v366 D367 => ?_)
                                                            refine z_istore (pc := 1802) d_LW_law_1802 (by decide) (lv' := [(6, .int v366), (5, .int v362), (0, .ref r0), (1, .ref r1), (2, .ref r2), (3, .ref r3), (4, .int x4)]) rfl ?_
                                                            refine z_aload_n (pc := 1804) d_LW_law_1804 rfl 4 rfl ?_
                                                            refine z_callVi (pc := 1805) [] lkV_LW_104 rfl (c_MD_thrown z364 D367 r2 ) (by decide) rfl rfl (Nat.le_of_ble_eq_true rfl) d_LW_law_1805 (fun v368 D369 => ?_)
                                                            refine z_iload (pc := 1808) d_LW_law_1808 1 rfl ?_
                                                            refine z_icmp_eq (pc := 1810) (tgt := 1815) d_LW_law_1810 (by decide) ?_ ?_
                                                            · refine z_jp (fun j1832 : Nat → Nat → Nat → Int32 → zW → zD → Option (Int32) => ∀ (r1 : Nat) (r2 : Nat) (r3 : Nat) (x4 : Int32) (z371 : zT) (D370 : zD), zGO K Y_LW_law 10 601024 7293034 zqL (j1832 r1 r2 r3 x4 z371.2 D370) (n23 * 1 + 0) (n23 * 6 + 0) z371 D370 1832 [(0, .ref r0), (1, .ref r1), (2, .ref r2), (3, .ref r3), (4, .int x4)] []) (fun r1 r2 r3 x4 z371 D370 => ?_) (fun j1832 h1832 => ?_)
                                                              · refine z_goto (pc := 1832) (tgt := 1835) d_LW_law_1832 (by decide) ?_
                                                                refine z_kc (by omega) (by omega) (z_sub [0, 1, 2, 3, 4] rfl (h1835 r1 r2 r3 x4 z371 D370))
                                                              · refine z_iload (pc := 1815) d_LW_law_1815 1 rfl ?_
                                                                refine z_if_ne (pc := 1817) (tgt := 1832) d_LW_law_1817 (by decide) ?_ ?_
                                                                · refine z_aload_n (pc := 1820) d_LW_law_1820 rfl 5 rfl ?_
                                                                  refine z_iconst (pc := 1821) d_LW_law_1821 ki_0 ?_
                                                                  refine z_laload (pc := 1822) d_LW_law_1822 (fun v372 => ?_)
                                                                  refine z_iload (pc := 1823) d_LW_law_1823 0 rfl ?_
                                                                  refine z_i2l (pc := 1825) d_LW_law_1825 ?_
                                                                  refine z_lcmp (pc := 1826) d_LW_law_1826 (fun v373 => ?_)
                                                                  refine z_if_eq (pc := 1827) (tgt := 1832) d_LW_law_1827 (by decide) ?_ ?_
                                                                  · refine z_kc (by omega) (by omega) (z_sub [2, 3, 4, 5, 6] rfl (h1832 r1 r2 r3 x4 z364 D369))
                                                                  · refine z_kc (kc' := 0) (ks' := 0) (by omega) (by omega) ?_
                                                                    refine z_iconst (pc := 1830) d_LW_law_1830 ki_0 ?_
                                                                    exact z_lret (pc := 1831) d_LW_law_1831 rfl (by decide)
                                                                · refine z_kc (by omega) (by omega) (z_sub [2, 3, 4, 5, 6] rfl (h1832 r1 r2 r3 x4 z364 D369))
                                                            · refine z_kc (kc' := 0) (ks' := 0) (by omega) (by omega) ?_
                                                              refine z_iconst (pc := 1813) d_LW_law_1813 ki_0 ?_
                                                              exact z_lret (pc := 1814) d_LW_law_1814 rfl (by decide)
                                                          · refine z_tableOut (pc := 40) (tgt := 1835) d_LW_law_40 (by have g0 := z_neI e0 (n := 0) rfl; have g1 := z_neI e1 (n := 1) rfl; have g2 := z_neI e2 (n := 2) rfl; have g3 := z_neI e3 (n := 3) rfl; have g4 := z_neI e4 (n := 4) rfl; have g5 := z_neI e5 (n := 5) rfl; have g6 := z_neI e6 (n := 6) rfl; have g7 := z_neI e7 (n := 7) rfl; have g8 := z_neI e8 (n := 8) rfl; have g9 := z_neI e9 (n := 9) rfl; have g10 := z_neI e10 (n := 10) rfl; have g11 := z_neI e11 (n := 11) rfl; have g12 := z_neI e12 (n := 12) rfl; have g13 := z_neI e13 (n := 13) rfl; have g14 := z_neI e14 (n := 14) rfl; have g15 := z_neI e15 (n := 15) rfl; have g16 := z_neI e16 (n := 16) rfl; have g17 := z_neI e17 (n := 17) rfl; have g18 := z_neI e18 (n := 18) rfl; have g19 := z_neI e19 (n := 19) rfl; have g20 := z_neI e20 (n := 20) rfl; have g21 := z_neI e21 (n := 21) rfl; have g22 := z_neI e22 (n := 22) rfl; have g23 := z_neI e23 (n := 23) rfl; have g24 := z_neI e24 (n := 24) rfl; have g25 := z_neI e25 (n := 25) rfl; omega) (by decide) ?_
                                                            refine z_kc (by omega) (by omega) (z_sub [0, 1, 2, 3, 4] rfl (h1835 r1 r2 r3 x4 z2 D1))
  · refine z_new (pc := 0) (kc2 := 601023) (ks2 := 7293025) zc_SirenFair w_cl_LW_8 w_inst_SF w_ini_SF (z_defs (by decide +kernel)) (by decide) (by decide) d_LW_law_0 (fun q374 z375 D376 => ?_)
    refine z_dup (pc := 3) d_LW_law_3 rfl ?_
    refine z_callIc (pc := 4) (kc2 := 600274) (ks2 := 7276138) [] lkI_LW_94 (c_SF_init z375 D376 q374 ) (by decide) (by decide) (by decide) rfl rfl (Nat.le_of_ble_eq_true rfl) d_LW_law_4 (fun z377 D378 => ?_)
    refine z_astore_n (pc := 7) d_LW_law_7 rfl (by decide) (lv' := [(1, .ref q374), (0, .ref r0)]) rfl ?_
    refine z_new (pc := 8) (kc2 := 600273) (ks2 := 7276127) zc_SirenFairModel w_cl_LW_95 w_inst_MD w_ini_MD (z_defs (by decide +kernel)) (by decide) (by decide) d_LW_law_8 (fun q379 z380 D381 => ?_)
    refine z_dup (pc := 11) d_LW_law_11 rfl ?_
    refine z_callIc (pc := 12) (kc2 := 600267) (ks2 := 7266627) [] lkI_LW_97 (c_MD_init z380 D381 q379 ) (by decide) (by decide) (by decide) rfl rfl (Nat.le_of_ble_eq_true rfl) d_LW_law_12 (fun z382 D383 => ?_)
    refine z_astore_n (pc := 15) d_LW_law_15 rfl (by decide) (lv' := [(2, .ref q379), (1, .ref q374), (0, .ref r0)]) rfl ?_
    refine z_iconst (pc := 16) d_LW_law_16 ki_1 ?_
    refine z_newL (pc := 17) (kc2 := 600266) (ks2 := 7266626) w_ac_long (by decide) (by decide) (Nat.le_of_ble_eq_true rfl) (by decide) (by decide) d_LW_law_17 (fun q384 z385 D386 => ?_)
    refine z_astore_n (pc := 19) d_LW_law_19 rfl (by decide) (lv' := [(3, .ref q384), (2, .ref q379), (1, .ref q374), (0, .ref r0)]) rfl ?_
    refine z_iconst (pc := 20) d_LW_law_20 ki_0 ?_
    refine z_istore (pc := 21) d_LW_law_21 (by decide) (lv' := [(4, .int (0 : Int32)), (3, .ref q384), (2, .ref q379), (1, .ref q374), (0, .ref r0)]) rfl ?_
    refine z_kc (by omega) (by omega) (z_sub [4, 3, 2, 1, 0] rfl (h23 q374 q379 q384 (0 : Int32) z385 D386))
