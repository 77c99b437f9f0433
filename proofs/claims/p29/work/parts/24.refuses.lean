theorem kb_13 : (Int8.ofInt (13)).toInt32 = (13 : Int32) := by decide +kernel
theorem kb_15 : (Int8.ofInt (15)).toInt32 = (15 : Int32) := by decide +kernel
theorem kb_21 : (Int8.ofInt (21)).toInt32 = (21 : Int32) := by decide +kernel
theorem kb_31 : (Int8.ofInt (31)).toInt32 = (31 : Int32) := by decide +kernel
theorem kb_41 : (Int8.ofInt (41)).toInt32 = (41 : Int32) := by decide +kernel
theorem kb_50 : (Int8.ofInt (50)).toInt32 = (50 : Int32) := by decide +kernel
theorem kb_m31 : (Int8.ofInt (-31)).toInt32 = (-31 : Int32) := by decide +kernel
theorem kb_m4 : (Int8.ofInt (-4)).toInt32 = (-4 : Int32) := by decide +kernel
theorem kb_m41 : (Int8.ofInt (-41)).toInt32 = (-41 : Int32) := by decide +kernel
theorem ks_1001 : (Int16.ofInt (1001)).toInt32 = (1001 : Int32) := by decide +kernel
theorem ks_256 : (Int16.ofInt (256)).toInt32 = (256 : Int32) := by decide +kernel
theorem ks_9999 : (Int16.ofInt (9999)).toInt32 = (9999 : Int32) := by decide +kernel
def Y_LW_refuses : zY := (⟨"SirenFairLaw", "refuses", "(LSirenFair;I)Z"⟩, method_29_code, 12, some .boolean, [])
theorem w_c_LW_call : Cond.code Y_LW_call.1 Y_LW_call.2.1 Y_LW_call.2.2.1 Y_LW_call.2.2.2.1 ∈ zWd := zin 501 (by decide +kernel) rfl
theorem lk_LW_call : zlk Y_LW_call 5 := ⟨w_c_LW_call, w_ini_LW, by decide +kernel, by decide +kernel, by decide⟩
theorem w_ml_LW_156 : Cond.methodLink "SirenFairLaw" 156 Y_LW_call.1 ∈ zWd := zin 499 (by decide +kernel) rfl
theorem w_st_LW_call : Cond.static Y_LW_call.1 ∈ zWd := zin 500 (by decide +kernel) rfl
theorem lkS_LW_156 : zlkS "SirenFairLaw" 156 Y_LW_call 5 := ⟨lk_LW_call, w_ml_LW_156, w_st_LW_call⟩
theorem w_cw_LW_walls : Cond.codeWith Y_LW_walls.1 Y_LW_walls.2.1 Y_LW_walls.2.2.1 Y_LW_walls.2.2.2.1 Y_LW_walls.2.2.2.2 ∈ zWd := zin 885 (by decide +kernel) rfl
theorem w_ml_LW_167 : Cond.methodLink "SirenFairLaw" 167 Y_LW_walls.1 ∈ zWd := zin 883 (by decide +kernel) rfl
theorem w_st_LW_walls : Cond.static Y_LW_walls.1 ∈ zWd := zin 884 (by decide +kernel) rfl
theorem lkH_LW_167 : zlkH "SirenFairLaw" 167 Y_LW_walls 3 := ⟨w_cw_LW_walls, w_ini_LW, by decide +kernel, by decide +kernel, by decide, w_ml_LW_167, w_st_LW_walls⟩
theorem w_cw_LW_hearers : Cond.codeWith Y_LW_hearers.1 Y_LW_hearers.2.1 Y_LW_hearers.2.2.1 Y_LW_hearers.2.2.2.1 Y_LW_hearers.2.2.2.2 ∈ zWd := zin 479 (by decide +kernel) rfl
theorem w_ml_LW_164 : Cond.methodLink "SirenFairLaw" 164 Y_LW_hearers.1 ∈ zWd := zin 477 (by decide +kernel) rfl
theorem w_st_LW_hearers : Cond.static Y_LW_hearers.1 ∈ zWd := zin 478 (by decide +kernel) rfl
theorem lkH_LW_164 : zlkH "SirenFairLaw" 164 Y_LW_hearers 5 := ⟨w_cw_LW_hearers, w_ini_LW, by decide +kernel, by decide +kernel, by decide, w_ml_LW_164, w_st_LW_hearers⟩
theorem w_cw_LW_sirens : Cond.codeWith Y_LW_sirens.1 Y_LW_sirens.2.1 Y_LW_sirens.2.2.1 Y_LW_sirens.2.2.2.1 Y_LW_sirens.2.2.2.2 ∈ zWd := zin 341 (by decide +kernel) rfl
theorem w_ml_LW_160 : Cond.methodLink "SirenFairLaw" 160 Y_LW_sirens.1 ∈ zWd := zin 339 (by decide +kernel) rfl
theorem w_st_LW_sirens : Cond.static Y_LW_sirens.1 ∈ zWd := zin 340 (by decide +kernel) rfl
theorem lkH_LW_160 : zlkH "SirenFairLaw" 160 Y_LW_sirens 6 := ⟨w_cw_LW_sirens, w_ini_LW, by decide +kernel, by decide +kernel, by decide, w_ml_LW_160, w_st_LW_sirens⟩
theorem w_cw_LW_turned : Cond.codeWith Y_LW_turned.1 Y_LW_turned.2.1 Y_LW_turned.2.2.1 Y_LW_turned.2.2.2.1 Y_LW_turned.2.2.2.2 ∈ zWd := zin 894 (by decide +kernel) rfl
theorem w_ml_LW_171 : Cond.methodLink "SirenFairLaw" 171 Y_LW_turned.1 ∈ zWd := zin 892 (by decide +kernel) rfl
theorem w_st_LW_turned : Cond.static Y_LW_turned.1 ∈ zWd := zin 893 (by decide +kernel) rfl
theorem lkH_LW_171 : zlkH "SirenFairLaw" 171 Y_LW_turned 3 := ⟨w_cw_LW_turned, w_ini_LW, by decide +kernel, by decide +kernel, by decide, w_ml_LW_171, w_st_LW_turned⟩
theorem w_cw_LW_doScript : Cond.codeWith Y_LW_doScript.1 Y_LW_doScript.2.1 Y_LW_doScript.2.2.1 Y_LW_doScript.2.2.2.1 Y_LW_doScript.2.2.2.2 ∈ zWd := zin 905 (by decide +kernel) rfl
theorem w_ml_LW_175 : Cond.methodLink "SirenFairLaw" 175 Y_LW_doScript.1 ∈ zWd := zin 903 (by decide +kernel) rfl
theorem w_st_LW_doScript : Cond.static Y_LW_doScript.1 ∈ zWd := zin 904 (by decide +kernel) rfl
theorem lkH_LW_175 : zlkH "SirenFairLaw" 175 Y_LW_doScript 3 := ⟨w_cw_LW_doScript, w_ini_LW, by decide +kernel, by decide +kernel, by decide, w_ml_LW_175, w_st_LW_doScript⟩
theorem w_k_LW_179 : Cond.constantLong "SirenFairLaw" 179 (100000) ∈ zWd := zin 917 (by decide +kernel) rfl
theorem w_cw_LW_doSimulate : Cond.codeWith Y_LW_doSimulate.1 Y_LW_doSimulate.2.1 Y_LW_doSimulate.2.2.1 Y_LW_doSimulate.2.2.2.1 Y_LW_doSimulate.2.2.2.2 ∈ zWd := zin 920 (by decide +kernel) rfl
theorem w_ml_LW_181 : Cond.methodLink "SirenFairLaw" 181 Y_LW_doSimulate.1 ∈ zWd := zin 918 (by decide +kernel) rfl
theorem w_st_LW_doSimulate : Cond.static Y_LW_doSimulate.1 ∈ zWd := zin 919 (by decide +kernel) rfl
theorem lkH_LW_181 : zlkH "SirenFairLaw" 181 Y_LW_doSimulate 3 := ⟨w_cw_LW_doSimulate, w_ini_LW, by decide +kernel, by decide +kernel, by decide, w_ml_LW_181, w_st_LW_doSimulate⟩
theorem d_LW_refuses_0 : decode Y_LW_refuses.2.1 0 = .ok (.aload_n 0, 1) := by decide +kernel
theorem d_LW_refuses_1 : decode Y_LW_refuses.2.1 1 = .ok (.iconst (2), 1) := by decide +kernel
theorem d_LW_refuses_2 : decode Y_LW_refuses.2.1 2 = .ok (.iconst (0), 1) := by decide +kernel
theorem d_LW_refuses_3 : decode Y_LW_refuses.2.1 3 = .ok (.iconst (0), 1) := by decide +kernel
theorem d_LW_refuses_4 : decode Y_LW_refuses.2.1 4 = .ok (.iconst (0), 1) := by decide +kernel
theorem d_LW_refuses_5 : decode Y_LW_refuses.2.1 5 = .ok (.invokestatic 156, 3) := by decide +kernel
theorem d_LW_refuses_8 : decode Y_LW_refuses.2.1 8 = .ok (.istore_n 2, 1) := by decide +kernel
theorem d_LW_refuses_9 : decode Y_LW_refuses.2.1 9 = .ok (.aload_n 0, 1) := by decide +kernel
theorem d_LW_refuses_10 : decode Y_LW_refuses.2.1 10 = .ok (.iconst (2), 1) := by decide +kernel
theorem d_LW_refuses_11 : decode Y_LW_refuses.2.1 11 = .ok (.iconst (1), 1) := by decide +kernel
theorem d_LW_refuses_12 : decode Y_LW_refuses.2.1 12 = .ok (.iconst (0), 1) := by decide +kernel
theorem d_LW_refuses_13 : decode Y_LW_refuses.2.1 13 = .ok (.iconst (0), 1) := by decide +kernel
theorem d_LW_refuses_14 : decode Y_LW_refuses.2.1 14 = .ok (.invokestatic 156, 3) := by decide +kernel
theorem d_LW_refuses_17 : decode Y_LW_refuses.2.1 17 = .ok (.istore_n 3, 1) := by decide +kernel
theorem d_LW_refuses_18 : decode Y_LW_refuses.2.1 18 = .ok (.aload_n 0, 1) := by decide +kernel
theorem d_LW_refuses_19 : decode Y_LW_refuses.2.1 19 = .ok (.iconst (2), 1) := by decide +kernel
theorem d_LW_refuses_20 : decode Y_LW_refuses.2.1 20 = .ok (.iconst (2), 1) := by decide +kernel
theorem d_LW_refuses_21 : decode Y_LW_refuses.2.1 21 = .ok (.iconst (0), 1) := by decide +kernel
theorem d_LW_refuses_22 : decode Y_LW_refuses.2.1 22 = .ok (.iconst (0), 1) := by decide +kernel
theorem d_LW_refuses_23 : decode Y_LW_refuses.2.1 23 = .ok (.invokestatic 156, 3) := by decide +kernel
theorem d_LW_refuses_26 : decode Y_LW_refuses.2.1 26 = .ok (.istore 4, 2) := by decide +kernel
theorem d_LW_refuses_28 : decode Y_LW_refuses.2.1 28 = .ok (.aload_n 0, 1) := by decide +kernel
theorem d_LW_refuses_29 : decode Y_LW_refuses.2.1 29 = .ok (.iconst (2), 1) := by decide +kernel
theorem d_LW_refuses_30 : decode Y_LW_refuses.2.1 30 = .ok (.iconst (4), 1) := by decide +kernel
theorem d_LW_refuses_31 : decode Y_LW_refuses.2.1 31 = .ok (.iconst (0), 1) := by decide +kernel
theorem d_LW_refuses_32 : decode Y_LW_refuses.2.1 32 = .ok (.iconst (0), 1) := by decide +kernel
theorem d_LW_refuses_33 : decode Y_LW_refuses.2.1 33 = .ok (.invokestatic 156, 3) := by decide +kernel
theorem d_LW_refuses_36 : decode Y_LW_refuses.2.1 36 = .ok (.istore 5, 2) := by decide +kernel
theorem d_LW_refuses_38 : decode Y_LW_refuses.2.1 38 = .ok (.iload_n 1, 1) := by decide +kernel
theorem d_LW_refuses_39 : decode Y_LW_refuses.2.1 39 = .ok (.iconst (2), 1) := by decide +kernel
theorem d_LW_refuses_40 : decode Y_LW_refuses.2.1 40 = .ok (.irem, 1) := by decide +kernel
theorem d_LW_refuses_41 : decode Y_LW_refuses.2.1 41 = .ok (.ifCond .ne (12), 3) := by decide +kernel
theorem d_LW_refuses_44 : decode Y_LW_refuses.2.1 44 = .ok (.iconst (-1), 1) := by decide +kernel
theorem d_LW_refuses_45 : decode Y_LW_refuses.2.1 45 = .ok (.iload_n 1, 1) := by decide +kernel
theorem d_LW_refuses_46 : decode Y_LW_refuses.2.1 46 = .ok (.bipush (99), 2) := by decide +kernel
theorem d_LW_refuses_48 : decode Y_LW_refuses.2.1 48 = .ok (.irem, 1) := by decide +kernel
theorem d_LW_refuses_49 : decode Y_LW_refuses.2.1 49 = .ok (.isub, 1) := by decide +kernel
theorem d_LW_refuses_50 : decode Y_LW_refuses.2.1 50 = .ok (.goto (9), 3) := by decide +kernel
theorem d_LW_refuses_53 : decode Y_LW_refuses.2.1 53 = .ok (.iload_n 2, 1) := by decide +kernel
theorem d_LW_refuses_54 : decode Y_LW_refuses.2.1 54 = .ok (.iload_n 1, 1) := by decide +kernel
theorem d_LW_refuses_55 : decode Y_LW_refuses.2.1 55 = .ok (.bipush (99), 2) := by decide +kernel
theorem d_LW_refuses_57 : decode Y_LW_refuses.2.1 57 = .ok (.irem, 1) := by decide +kernel
theorem d_LW_refuses_58 : decode Y_LW_refuses.2.1 58 = .ok (.iadd, 1) := by decide +kernel
theorem d_LW_refuses_59 : decode Y_LW_refuses.2.1 59 = .ok (.istore 6, 2) := by decide +kernel
theorem d_LW_refuses_61 : decode Y_LW_refuses.2.1 61 = .ok (.iload_n 1, 1) := by decide +kernel
theorem d_LW_refuses_62 : decode Y_LW_refuses.2.1 62 = .ok (.iconst (2), 1) := by decide +kernel
theorem d_LW_refuses_63 : decode Y_LW_refuses.2.1 63 = .ok (.irem, 1) := by decide +kernel
theorem d_LW_refuses_64 : decode Y_LW_refuses.2.1 64 = .ok (.ifCond .ne (12), 3) := by decide +kernel
theorem d_LW_refuses_67 : decode Y_LW_refuses.2.1 67 = .ok (.iconst (-1), 1) := by decide +kernel
theorem d_LW_refuses_68 : decode Y_LW_refuses.2.1 68 = .ok (.iload_n 1, 1) := by decide +kernel
theorem d_LW_refuses_69 : decode Y_LW_refuses.2.1 69 = .ok (.bipush (99), 2) := by decide +kernel
theorem d_LW_refuses_71 : decode Y_LW_refuses.2.1 71 = .ok (.irem, 1) := by decide +kernel
theorem d_LW_refuses_72 : decode Y_LW_refuses.2.1 72 = .ok (.isub, 1) := by decide +kernel
theorem d_LW_refuses_73 : decode Y_LW_refuses.2.1 73 = .ok (.goto (9), 3) := by decide +kernel
theorem d_LW_refuses_76 : decode Y_LW_refuses.2.1 76 = .ok (.iload_n 3, 1) := by decide +kernel
theorem d_LW_refuses_77 : decode Y_LW_refuses.2.1 77 = .ok (.iload_n 1, 1) := by decide +kernel
theorem d_LW_refuses_78 : decode Y_LW_refuses.2.1 78 = .ok (.bipush (99), 2) := by decide +kernel
theorem d_LW_refuses_80 : decode Y_LW_refuses.2.1 80 = .ok (.irem, 1) := by decide +kernel
theorem d_LW_refuses_81 : decode Y_LW_refuses.2.1 81 = .ok (.iadd, 1) := by decide +kernel
theorem d_LW_refuses_82 : decode Y_LW_refuses.2.1 82 = .ok (.istore 7, 2) := by decide +kernel
theorem d_LW_refuses_84 : decode Y_LW_refuses.2.1 84 = .ok (.iload_n 1, 1) := by decide +kernel
theorem d_LW_refuses_85 : decode Y_LW_refuses.2.1 85 = .ok (.iconst (2), 1) := by decide +kernel
theorem d_LW_refuses_86 : decode Y_LW_refuses.2.1 86 = .ok (.irem, 1) := by decide +kernel
theorem d_LW_refuses_87 : decode Y_LW_refuses.2.1 87 = .ok (.ifCond .ne (13), 3) := by decide +kernel
theorem d_LW_refuses_90 : decode Y_LW_refuses.2.1 90 = .ok (.bipush (-31), 2) := by decide +kernel
theorem d_LW_refuses_92 : decode Y_LW_refuses.2.1 92 = .ok (.iload_n 1, 1) := by decide +kernel
theorem d_LW_refuses_93 : decode Y_LW_refuses.2.1 93 = .ok (.bipush (9), 2) := by decide +kernel
theorem d_LW_refuses_95 : decode Y_LW_refuses.2.1 95 = .ok (.irem, 1) := by decide +kernel
theorem d_LW_refuses_96 : decode Y_LW_refuses.2.1 96 = .ok (.isub, 1) := by decide +kernel
theorem d_LW_refuses_97 : decode Y_LW_refuses.2.1 97 = .ok (.goto (10), 3) := by decide +kernel
theorem d_LW_refuses_100 : decode Y_LW_refuses.2.1 100 = .ok (.bipush (31), 2) := by decide +kernel
theorem d_LW_refuses_102 : decode Y_LW_refuses.2.1 102 = .ok (.iload_n 1, 1) := by decide +kernel
theorem d_LW_refuses_103 : decode Y_LW_refuses.2.1 103 = .ok (.bipush (9), 2) := by decide +kernel
theorem d_LW_refuses_105 : decode Y_LW_refuses.2.1 105 = .ok (.irem, 1) := by decide +kernel
theorem d_LW_refuses_106 : decode Y_LW_refuses.2.1 106 = .ok (.iadd, 1) := by decide +kernel
theorem d_LW_refuses_107 : decode Y_LW_refuses.2.1 107 = .ok (.istore 8, 2) := by decide +kernel
theorem d_LW_refuses_109 : decode Y_LW_refuses.2.1 109 = .ok (.iload_n 1, 1) := by decide +kernel
theorem d_LW_refuses_110 : decode Y_LW_refuses.2.1 110 = .ok (.iconst (2), 1) := by decide +kernel
theorem d_LW_refuses_111 : decode Y_LW_refuses.2.1 111 = .ok (.irem, 1) := by decide +kernel
theorem d_LW_refuses_112 : decode Y_LW_refuses.2.1 112 = .ok (.ifCond .ne (13), 3) := by decide +kernel
theorem d_LW_refuses_115 : decode Y_LW_refuses.2.1 115 = .ok (.bipush (-41), 2) := by decide +kernel
theorem d_LW_refuses_117 : decode Y_LW_refuses.2.1 117 = .ok (.iload_n 1, 1) := by decide +kernel
theorem d_LW_refuses_118 : decode Y_LW_refuses.2.1 118 = .ok (.bipush (9), 2) := by decide +kernel
theorem d_LW_refuses_120 : decode Y_LW_refuses.2.1 120 = .ok (.irem, 1) := by decide +kernel
theorem d_LW_refuses_121 : decode Y_LW_refuses.2.1 121 = .ok (.isub, 1) := by decide +kernel
theorem d_LW_refuses_122 : decode Y_LW_refuses.2.1 122 = .ok (.goto (10), 3) := by decide +kernel
theorem d_LW_refuses_125 : decode Y_LW_refuses.2.1 125 = .ok (.bipush (41), 2) := by decide +kernel
theorem d_LW_refuses_127 : decode Y_LW_refuses.2.1 127 = .ok (.iload_n 1, 1) := by decide +kernel
theorem d_LW_refuses_128 : decode Y_LW_refuses.2.1 128 = .ok (.bipush (9), 2) := by decide +kernel
theorem d_LW_refuses_130 : decode Y_LW_refuses.2.1 130 = .ok (.irem, 1) := by decide +kernel
theorem d_LW_refuses_131 : decode Y_LW_refuses.2.1 131 = .ok (.iadd, 1) := by decide +kernel
theorem d_LW_refuses_132 : decode Y_LW_refuses.2.1 132 = .ok (.istore 9, 2) := by decide +kernel
theorem d_LW_refuses_134 : decode Y_LW_refuses.2.1 134 = .ok (.iload_n 1, 1) := by decide +kernel
theorem d_LW_refuses_135 : decode Y_LW_refuses.2.1 135 = .ok (.iconst (2), 1) := by decide +kernel
theorem d_LW_refuses_136 : decode Y_LW_refuses.2.1 136 = .ok (.irem, 1) := by decide +kernel
theorem d_LW_refuses_137 : decode Y_LW_refuses.2.1 137 = .ok (.ifCond .ne (13), 3) := by decide +kernel
theorem d_LW_refuses_140 : decode Y_LW_refuses.2.1 140 = .ok (.bipush (-3), 2) := by decide +kernel
theorem d_LW_refuses_142 : decode Y_LW_refuses.2.1 142 = .ok (.iload_n 1, 1) := by decide +kernel
theorem d_LW_refuses_143 : decode Y_LW_refuses.2.1 143 = .ok (.bipush (9), 2) := by decide +kernel
theorem d_LW_refuses_145 : decode Y_LW_refuses.2.1 145 = .ok (.irem, 1) := by decide +kernel
theorem d_LW_refuses_146 : decode Y_LW_refuses.2.1 146 = .ok (.isub, 1) := by decide +kernel
theorem d_LW_refuses_147 : decode Y_LW_refuses.2.1 147 = .ok (.goto (9), 3) := by decide +kernel
theorem d_LW_refuses_150 : decode Y_LW_refuses.2.1 150 = .ok (.iconst (3), 1) := by decide +kernel
theorem d_LW_refuses_151 : decode Y_LW_refuses.2.1 151 = .ok (.iload_n 1, 1) := by decide +kernel
theorem d_LW_refuses_152 : decode Y_LW_refuses.2.1 152 = .ok (.bipush (9), 2) := by decide +kernel
theorem d_LW_refuses_154 : decode Y_LW_refuses.2.1 154 = .ok (.irem, 1) := by decide +kernel
theorem d_LW_refuses_155 : decode Y_LW_refuses.2.1 155 = .ok (.iadd, 1) := by decide +kernel
theorem d_LW_refuses_156 : decode Y_LW_refuses.2.1 156 = .ok (.istore 10, 2) := by decide +kernel
theorem d_LW_refuses_158 : decode Y_LW_refuses.2.1 158 = .ok (.aload_n 0, 1) := by decide +kernel
theorem d_LW_refuses_159 : decode Y_LW_refuses.2.1 159 = .ok (.iconst (0), 1) := by decide +kernel
theorem d_LW_refuses_160 : decode Y_LW_refuses.2.1 160 = .ok (.iload_n 1, 1) := by decide +kernel
theorem d_LW_refuses_161 : decode Y_LW_refuses.2.1 161 = .ok (.iconst (2), 1) := by decide +kernel
theorem d_LW_refuses_162 : decode Y_LW_refuses.2.1 162 = .ok (.irem, 1) := by decide +kernel
theorem d_LW_refuses_163 : decode Y_LW_refuses.2.1 163 = .ok (.ifCond .ne (12), 3) := by decide +kernel
theorem d_LW_refuses_166 : decode Y_LW_refuses.2.1 166 = .ok (.iconst (-1), 1) := by decide +kernel
theorem d_LW_refuses_167 : decode Y_LW_refuses.2.1 167 = .ok (.iload_n 1, 1) := by decide +kernel
theorem d_LW_refuses_168 : decode Y_LW_refuses.2.1 168 = .ok (.bipush (9), 2) := by decide +kernel
theorem d_LW_refuses_170 : decode Y_LW_refuses.2.1 170 = .ok (.irem, 1) := by decide +kernel
theorem d_LW_refuses_171 : decode Y_LW_refuses.2.1 171 = .ok (.isub, 1) := by decide +kernel
theorem d_LW_refuses_172 : decode Y_LW_refuses.2.1 172 = .ok (.goto (11), 3) := by decide +kernel
theorem d_LW_refuses_175 : decode Y_LW_refuses.2.1 175 = .ok (.sipush (256), 3) := by decide +kernel
theorem d_LW_refuses_178 : decode Y_LW_refuses.2.1 178 = .ok (.iload_n 1, 1) := by decide +kernel
theorem d_LW_refuses_179 : decode Y_LW_refuses.2.1 179 = .ok (.bipush (9), 2) := by decide +kernel
theorem d_LW_refuses_181 : decode Y_LW_refuses.2.1 181 = .ok (.irem, 1) := by decide +kernel
theorem d_LW_refuses_182 : decode Y_LW_refuses.2.1 182 = .ok (.iadd, 1) := by decide +kernel
theorem d_LW_refuses_183 : decode Y_LW_refuses.2.1 183 = .ok (.iconst (0), 1) := by decide +kernel
theorem d_LW_refuses_184 : decode Y_LW_refuses.2.1 184 = .ok (.iconst (0), 1) := by decide +kernel
theorem d_LW_refuses_185 : decode Y_LW_refuses.2.1 185 = .ok (.invokestatic 156, 3) := by decide +kernel
theorem d_LW_refuses_188 : decode Y_LW_refuses.2.1 188 = .ok (.ldc 15, 2) := by decide +kernel
theorem d_LW_refuses_190 : decode Y_LW_refuses.2.1 190 = .ok (.if_icmp .ne (809), 3) := by decide +kernel
theorem d_LW_refuses_193 : decode Y_LW_refuses.2.1 193 = .ok (.aload_n 0, 1) := by decide +kernel
theorem d_LW_refuses_194 : decode Y_LW_refuses.2.1 194 = .ok (.iconst (2), 1) := by decide +kernel
theorem d_LW_refuses_195 : decode Y_LW_refuses.2.1 195 = .ok (.bipush (10), 2) := by decide +kernel
theorem d_LW_refuses_197 : decode Y_LW_refuses.2.1 197 = .ok (.iload_n 1, 1) := by decide +kernel
theorem d_LW_refuses_198 : decode Y_LW_refuses.2.1 198 = .ok (.bipush (50), 2) := by decide +kernel
theorem d_LW_refuses_200 : decode Y_LW_refuses.2.1 200 = .ok (.irem, 1) := by decide +kernel
theorem d_LW_refuses_201 : decode Y_LW_refuses.2.1 201 = .ok (.iadd, 1) := by decide +kernel
theorem d_LW_refuses_202 : decode Y_LW_refuses.2.1 202 = .ok (.iconst (0), 1) := by decide +kernel
theorem d_LW_refuses_203 : decode Y_LW_refuses.2.1 203 = .ok (.iconst (0), 1) := by decide +kernel
theorem d_LW_refuses_204 : decode Y_LW_refuses.2.1 204 = .ok (.invokestatic 156, 3) := by decide +kernel
theorem d_LW_refuses_207 : decode Y_LW_refuses.2.1 207 = .ok (.ldc 15, 2) := by decide +kernel
theorem d_LW_refuses_209 : decode Y_LW_refuses.2.1 209 = .ok (.if_icmp .ne (790), 3) := by decide +kernel
theorem d_LW_refuses_212 : decode Y_LW_refuses.2.1 212 = .ok (.aload_n 0, 1) := by decide +kernel
theorem d_LW_refuses_213 : decode Y_LW_refuses.2.1 213 = .ok (.iconst (3), 1) := by decide +kernel
theorem d_LW_refuses_214 : decode Y_LW_refuses.2.1 214 = .ok (.iload 6, 2) := by decide +kernel
theorem d_LW_refuses_216 : decode Y_LW_refuses.2.1 216 = .ok (.bipush (99), 2) := by decide +kernel
theorem d_LW_refuses_218 : decode Y_LW_refuses.2.1 218 = .ok (.iconst (0), 1) := by decide +kernel
theorem d_LW_refuses_219 : decode Y_LW_refuses.2.1 219 = .ok (.invokestatic 156, 3) := by decide +kernel
theorem d_LW_refuses_222 : decode Y_LW_refuses.2.1 222 = .ok (.ldc 33, 2) := by decide +kernel
theorem d_LW_refuses_224 : decode Y_LW_refuses.2.1 224 = .ok (.if_icmp .ne (775), 3) := by decide +kernel
theorem d_LW_refuses_227 : decode Y_LW_refuses.2.1 227 = .ok (.aload_n 0, 1) := by decide +kernel
theorem d_LW_refuses_228 : decode Y_LW_refuses.2.1 228 = .ok (.iconst (3), 1) := by decide +kernel
theorem d_LW_refuses_229 : decode Y_LW_refuses.2.1 229 = .ok (.iconst (0), 1) := by decide +kernel
theorem d_LW_refuses_230 : decode Y_LW_refuses.2.1 230 = .ok (.bipush (10), 2) := by decide +kernel
theorem d_LW_refuses_232 : decode Y_LW_refuses.2.1 232 = .ok (.iload_n 1, 1) := by decide +kernel
theorem d_LW_refuses_233 : decode Y_LW_refuses.2.1 233 = .ok (.bipush (9), 2) := by decide +kernel
theorem d_LW_refuses_235 : decode Y_LW_refuses.2.1 235 = .ok (.irem, 1) := by decide +kernel
theorem d_LW_refuses_236 : decode Y_LW_refuses.2.1 236 = .ok (.iadd, 1) := by decide +kernel
theorem d_LW_refuses_237 : decode Y_LW_refuses.2.1 237 = .ok (.iconst (0), 1) := by decide +kernel
theorem d_LW_refuses_238 : decode Y_LW_refuses.2.1 238 = .ok (.invokestatic 156, 3) := by decide +kernel
theorem d_LW_refuses_241 : decode Y_LW_refuses.2.1 241 = .ok (.ldc 15, 2) := by decide +kernel
theorem d_LW_refuses_243 : decode Y_LW_refuses.2.1 243 = .ok (.if_icmp .ne (756), 3) := by decide +kernel
theorem d_LW_refuses_246 : decode Y_LW_refuses.2.1 246 = .ok (.aload_n 0, 1) := by decide +kernel
theorem d_LW_refuses_247 : decode Y_LW_refuses.2.1 247 = .ok (.iconst (4), 1) := by decide +kernel
theorem d_LW_refuses_248 : decode Y_LW_refuses.2.1 248 = .ok (.iload 7, 2) := by decide +kernel
theorem d_LW_refuses_250 : decode Y_LW_refuses.2.1 250 = .ok (.bipush (99), 2) := by decide +kernel
theorem d_LW_refuses_252 : decode Y_LW_refuses.2.1 252 = .ok (.iconst (0), 1) := by decide +kernel
theorem d_LW_refuses_253 : decode Y_LW_refuses.2.1 253 = .ok (.invokestatic 156, 3) := by decide +kernel
theorem d_LW_refuses_256 : decode Y_LW_refuses.2.1 256 = .ok (.ldc 33, 2) := by decide +kernel
theorem d_LW_refuses_258 : decode Y_LW_refuses.2.1 258 = .ok (.if_icmp .ne (741), 3) := by decide +kernel
theorem d_LW_refuses_261 : decode Y_LW_refuses.2.1 261 = .ok (.aload_n 0, 1) := by decide +kernel
theorem d_LW_refuses_262 : decode Y_LW_refuses.2.1 262 = .ok (.iconst (4), 1) := by decide +kernel
theorem d_LW_refuses_263 : decode Y_LW_refuses.2.1 263 = .ok (.iconst (0), 1) := by decide +kernel
theorem d_LW_refuses_264 : decode Y_LW_refuses.2.1 264 = .ok (.bipush (6), 2) := by decide +kernel
theorem d_LW_refuses_266 : decode Y_LW_refuses.2.1 266 = .ok (.iload_n 1, 1) := by decide +kernel
theorem d_LW_refuses_267 : decode Y_LW_refuses.2.1 267 = .ok (.bipush (9), 2) := by decide +kernel
theorem d_LW_refuses_269 : decode Y_LW_refuses.2.1 269 = .ok (.irem, 1) := by decide +kernel
theorem d_LW_refuses_270 : decode Y_LW_refuses.2.1 270 = .ok (.iadd, 1) := by decide +kernel
theorem d_LW_refuses_271 : decode Y_LW_refuses.2.1 271 = .ok (.iconst (0), 1) := by decide +kernel
theorem d_LW_refuses_272 : decode Y_LW_refuses.2.1 272 = .ok (.invokestatic 156, 3) := by decide +kernel
theorem d_LW_refuses_275 : decode Y_LW_refuses.2.1 275 = .ok (.ldc 15, 2) := by decide +kernel
theorem d_LW_refuses_277 : decode Y_LW_refuses.2.1 277 = .ok (.if_icmp .ne (722), 3) := by decide +kernel
theorem d_LW_refuses_280 : decode Y_LW_refuses.2.1 280 = .ok (.aload_n 0, 1) := by decide +kernel
theorem d_LW_refuses_281 : decode Y_LW_refuses.2.1 281 = .ok (.iconst (5), 1) := by decide +kernel
theorem d_LW_refuses_282 : decode Y_LW_refuses.2.1 282 = .ok (.iload_n 1, 1) := by decide +kernel
theorem d_LW_refuses_283 : decode Y_LW_refuses.2.1 283 = .ok (.iconst (2), 1) := by decide +kernel
theorem d_LW_refuses_284 : decode Y_LW_refuses.2.1 284 = .ok (.irem, 1) := by decide +kernel
theorem d_LW_refuses_285 : decode Y_LW_refuses.2.1 285 = .ok (.ifCond .ne (7), 3) := by decide +kernel
theorem d_LW_refuses_288 : decode Y_LW_refuses.2.1 288 = .ok (.iconst (-1), 1) := by decide +kernel
theorem d_LW_refuses_289 : decode Y_LW_refuses.2.1 289 = .ok (.goto (10), 3) := by decide +kernel
theorem d_LW_refuses_292 : decode Y_LW_refuses.2.1 292 = .ok (.iload 4, 2) := by decide +kernel
theorem d_LW_refuses_294 : decode Y_LW_refuses.2.1 294 = .ok (.iload_n 1, 1) := by decide +kernel
theorem d_LW_refuses_295 : decode Y_LW_refuses.2.1 295 = .ok (.bipush (9), 2) := by decide +kernel
theorem d_LW_refuses_297 : decode Y_LW_refuses.2.1 297 = .ok (.irem, 1) := by decide +kernel
theorem d_LW_refuses_298 : decode Y_LW_refuses.2.1 298 = .ok (.iadd, 1) := by decide +kernel
theorem d_LW_refuses_299 : decode Y_LW_refuses.2.1 299 = .ok (.bipush (9), 2) := by decide +kernel
theorem d_LW_refuses_301 : decode Y_LW_refuses.2.1 301 = .ok (.iconst (0), 1) := by decide +kernel
theorem d_LW_refuses_302 : decode Y_LW_refuses.2.1 302 = .ok (.invokestatic 156, 3) := by decide +kernel
theorem d_LW_refuses_305 : decode Y_LW_refuses.2.1 305 = .ok (.ldc 33, 2) := by decide +kernel
theorem d_LW_refuses_307 : decode Y_LW_refuses.2.1 307 = .ok (.if_icmp .ne (692), 3) := by decide +kernel
theorem d_LW_refuses_310 : decode Y_LW_refuses.2.1 310 = .ok (.aload_n 0, 1) := by decide +kernel
theorem d_LW_refuses_311 : decode Y_LW_refuses.2.1 311 = .ok (.bipush (6), 2) := by decide +kernel
theorem d_LW_refuses_313 : decode Y_LW_refuses.2.1 313 = .ok (.iload_n 1, 1) := by decide +kernel
theorem d_LW_refuses_314 : decode Y_LW_refuses.2.1 314 = .ok (.iconst (2), 1) := by decide +kernel
theorem d_LW_refuses_315 : decode Y_LW_refuses.2.1 315 = .ok (.irem, 1) := by decide +kernel
theorem d_LW_refuses_316 : decode Y_LW_refuses.2.1 316 = .ok (.ifCond .ne (7), 3) := by decide +kernel
theorem d_LW_refuses_319 : decode Y_LW_refuses.2.1 319 = .ok (.iconst (-1), 1) := by decide +kernel
theorem d_LW_refuses_320 : decode Y_LW_refuses.2.1 320 = .ok (.goto (10), 3) := by decide +kernel
theorem d_LW_refuses_323 : decode Y_LW_refuses.2.1 323 = .ok (.iload 5, 2) := by decide +kernel
theorem d_LW_refuses_325 : decode Y_LW_refuses.2.1 325 = .ok (.iload_n 1, 1) := by decide +kernel
theorem d_LW_refuses_326 : decode Y_LW_refuses.2.1 326 = .ok (.bipush (9), 2) := by decide +kernel
theorem d_LW_refuses_328 : decode Y_LW_refuses.2.1 328 = .ok (.irem, 1) := by decide +kernel
theorem d_LW_refuses_329 : decode Y_LW_refuses.2.1 329 = .ok (.iadd, 1) := by decide +kernel
theorem d_LW_refuses_330 : decode Y_LW_refuses.2.1 330 = .ok (.bipush (99), 2) := by decide +kernel
theorem d_LW_refuses_332 : decode Y_LW_refuses.2.1 332 = .ok (.iconst (0), 1) := by decide +kernel
theorem d_LW_refuses_333 : decode Y_LW_refuses.2.1 333 = .ok (.invokestatic 156, 3) := by decide +kernel
theorem d_LW_refuses_336 : decode Y_LW_refuses.2.1 336 = .ok (.ldc 33, 2) := by decide +kernel
theorem d_LW_refuses_338 : decode Y_LW_refuses.2.1 338 = .ok (.if_icmp .ne (661), 3) := by decide +kernel
theorem d_LW_refuses_341 : decode Y_LW_refuses.2.1 341 = .ok (.iload 5, 2) := by decide +kernel
theorem d_LW_refuses_343 : decode Y_LW_refuses.2.1 343 = .ok (.ifCond .eq (23), 3) := by decide +kernel
theorem d_LW_refuses_346 : decode Y_LW_refuses.2.1 346 = .ok (.aload_n 0, 1) := by decide +kernel
theorem d_LW_refuses_347 : decode Y_LW_refuses.2.1 347 = .ok (.bipush (6), 2) := by decide +kernel
theorem d_LW_refuses_349 : decode Y_LW_refuses.2.1 349 = .ok (.iconst (0), 1) := by decide +kernel
theorem d_LW_refuses_350 : decode Y_LW_refuses.2.1 350 = .ok (.bipush (6), 2) := by decide +kernel
theorem d_LW_refuses_352 : decode Y_LW_refuses.2.1 352 = .ok (.iload_n 1, 1) := by decide +kernel
theorem d_LW_refuses_353 : decode Y_LW_refuses.2.1 353 = .ok (.bipush (9), 2) := by decide +kernel
theorem d_LW_refuses_355 : decode Y_LW_refuses.2.1 355 = .ok (.irem, 1) := by decide +kernel
theorem d_LW_refuses_356 : decode Y_LW_refuses.2.1 356 = .ok (.iadd, 1) := by decide +kernel
theorem d_LW_refuses_357 : decode Y_LW_refuses.2.1 357 = .ok (.iconst (0), 1) := by decide +kernel
theorem d_LW_refuses_358 : decode Y_LW_refuses.2.1 358 = .ok (.invokestatic 156, 3) := by decide +kernel
theorem d_LW_refuses_361 : decode Y_LW_refuses.2.1 361 = .ok (.ldc 15, 2) := by decide +kernel
theorem d_LW_refuses_363 : decode Y_LW_refuses.2.1 363 = .ok (.if_icmp .ne (636), 3) := by decide +kernel
theorem d_LW_refuses_366 : decode Y_LW_refuses.2.1 366 = .ok (.aload_n 0, 1) := by decide +kernel
theorem d_LW_refuses_367 : decode Y_LW_refuses.2.1 367 = .ok (.bipush (7), 2) := by decide +kernel
theorem d_LW_refuses_369 : decode Y_LW_refuses.2.1 369 = .ok (.iload 7, 2) := by decide +kernel
theorem d_LW_refuses_371 : decode Y_LW_refuses.2.1 371 = .ok (.iconst (0), 1) := by decide +kernel
theorem d_LW_refuses_372 : decode Y_LW_refuses.2.1 372 = .ok (.bipush (9), 2) := by decide +kernel
theorem d_LW_refuses_374 : decode Y_LW_refuses.2.1 374 = .ok (.invokestatic 156, 3) := by decide +kernel
theorem d_LW_refuses_377 : decode Y_LW_refuses.2.1 377 = .ok (.ldc 33, 2) := by decide +kernel
theorem d_LW_refuses_379 : decode Y_LW_refuses.2.1 379 = .ok (.if_icmp .ne (620), 3) := by decide +kernel
theorem d_LW_refuses_382 : decode Y_LW_refuses.2.1 382 = .ok (.aload_n 0, 1) := by decide +kernel
theorem d_LW_refuses_383 : decode Y_LW_refuses.2.1 383 = .ok (.bipush (7), 2) := by decide +kernel
theorem d_LW_refuses_385 : decode Y_LW_refuses.2.1 385 = .ok (.iconst (0), 1) := by decide +kernel
theorem d_LW_refuses_386 : decode Y_LW_refuses.2.1 386 = .ok (.iload 6, 2) := by decide +kernel
theorem d_LW_refuses_388 : decode Y_LW_refuses.2.1 388 = .ok (.bipush (9), 2) := by decide +kernel
theorem d_LW_refuses_390 : decode Y_LW_refuses.2.1 390 = .ok (.invokestatic 156, 3) := by decide +kernel
theorem d_LW_refuses_393 : decode Y_LW_refuses.2.1 393 = .ok (.ldc 33, 2) := by decide +kernel
theorem d_LW_refuses_395 : decode Y_LW_refuses.2.1 395 = .ok (.if_icmp .ne (604), 3) := by decide +kernel
theorem d_LW_refuses_398 : decode Y_LW_refuses.2.1 398 = .ok (.aload_n 0, 1) := by decide +kernel
theorem d_LW_refuses_399 : decode Y_LW_refuses.2.1 399 = .ok (.bipush (7), 2) := by decide +kernel
theorem d_LW_refuses_401 : decode Y_LW_refuses.2.1 401 = .ok (.iconst (0), 1) := by decide +kernel
theorem d_LW_refuses_402 : decode Y_LW_refuses.2.1 402 = .ok (.iconst (0), 1) := by decide +kernel
theorem d_LW_refuses_403 : decode Y_LW_refuses.2.1 403 = .ok (.bipush (6), 2) := by decide +kernel
theorem d_LW_refuses_405 : decode Y_LW_refuses.2.1 405 = .ok (.iload_n 1, 1) := by decide +kernel
theorem d_LW_refuses_406 : decode Y_LW_refuses.2.1 406 = .ok (.bipush (9), 2) := by decide +kernel
theorem d_LW_refuses_408 : decode Y_LW_refuses.2.1 408 = .ok (.irem, 1) := by decide +kernel
theorem d_LW_refuses_409 : decode Y_LW_refuses.2.1 409 = .ok (.iadd, 1) := by decide +kernel
theorem d_LW_refuses_410 : decode Y_LW_refuses.2.1 410 = .ok (.invokestatic 156, 3) := by decide +kernel
theorem d_LW_refuses_413 : decode Y_LW_refuses.2.1 413 = .ok (.ldc 15, 2) := by decide +kernel
theorem d_LW_refuses_415 : decode Y_LW_refuses.2.1 415 = .ok (.if_icmp .ne (584), 3) := by decide +kernel
theorem d_LW_refuses_418 : decode Y_LW_refuses.2.1 418 = .ok (.aload_n 0, 1) := by decide +kernel
theorem d_LW_refuses_419 : decode Y_LW_refuses.2.1 419 = .ok (.iload 8, 2) := by decide +kernel
theorem d_LW_refuses_421 : decode Y_LW_refuses.2.1 421 = .ok (.iconst (0), 1) := by decide +kernel
theorem d_LW_refuses_422 : decode Y_LW_refuses.2.1 422 = .ok (.iconst (1), 1) := by decide +kernel
theorem d_LW_refuses_423 : decode Y_LW_refuses.2.1 423 = .ok (.iconst (1), 1) := by decide +kernel
theorem d_LW_refuses_424 : decode Y_LW_refuses.2.1 424 = .ok (.iconst (1), 1) := by decide +kernel
theorem d_LW_refuses_425 : decode Y_LW_refuses.2.1 425 = .ok (.invokestatic 160, 3) := by decide +kernel
theorem d_LW_refuses_428 : decode Y_LW_refuses.2.1 428 = .ok (.ldc 15, 2) := by decide +kernel
theorem d_LW_refuses_430 : decode Y_LW_refuses.2.1 430 = .ok (.if_icmp .ne (569), 3) := by decide +kernel
theorem d_LW_refuses_433 : decode Y_LW_refuses.2.1 433 = .ok (.aload_n 0, 1) := by decide +kernel
theorem d_LW_refuses_434 : decode Y_LW_refuses.2.1 434 = .ok (.iconst (0), 1) := by decide +kernel
theorem d_LW_refuses_435 : decode Y_LW_refuses.2.1 435 = .ok (.iload 8, 2) := by decide +kernel
theorem d_LW_refuses_437 : decode Y_LW_refuses.2.1 437 = .ok (.iconst (1), 1) := by decide +kernel
theorem d_LW_refuses_438 : decode Y_LW_refuses.2.1 438 = .ok (.iconst (1), 1) := by decide +kernel
theorem d_LW_refuses_439 : decode Y_LW_refuses.2.1 439 = .ok (.iconst (1), 1) := by decide +kernel
theorem d_LW_refuses_440 : decode Y_LW_refuses.2.1 440 = .ok (.invokestatic 160, 3) := by decide +kernel
theorem d_LW_refuses_443 : decode Y_LW_refuses.2.1 443 = .ok (.ldc 15, 2) := by decide +kernel
theorem d_LW_refuses_445 : decode Y_LW_refuses.2.1 445 = .ok (.if_icmp .ne (554), 3) := by decide +kernel
theorem d_LW_refuses_448 : decode Y_LW_refuses.2.1 448 = .ok (.aload_n 0, 1) := by decide +kernel
theorem d_LW_refuses_449 : decode Y_LW_refuses.2.1 449 = .ok (.iconst (0), 1) := by decide +kernel
theorem d_LW_refuses_450 : decode Y_LW_refuses.2.1 450 = .ok (.iconst (0), 1) := by decide +kernel
theorem d_LW_refuses_451 : decode Y_LW_refuses.2.1 451 = .ok (.iload_n 1, 1) := by decide +kernel
theorem d_LW_refuses_452 : decode Y_LW_refuses.2.1 452 = .ok (.iconst (2), 1) := by decide +kernel
theorem d_LW_refuses_453 : decode Y_LW_refuses.2.1 453 = .ok (.irem, 1) := by decide +kernel
theorem d_LW_refuses_454 : decode Y_LW_refuses.2.1 454 = .ok (.ifCond .ne (7), 3) := by decide +kernel
theorem d_LW_refuses_457 : decode Y_LW_refuses.2.1 457 = .ok (.iconst (0), 1) := by decide +kernel
theorem d_LW_refuses_458 : decode Y_LW_refuses.2.1 458 = .ok (.goto (10), 3) := by decide +kernel
theorem d_LW_refuses_461 : decode Y_LW_refuses.2.1 461 = .ok (.bipush (6), 2) := by decide +kernel
theorem d_LW_refuses_463 : decode Y_LW_refuses.2.1 463 = .ok (.iload_n 1, 1) := by decide +kernel
theorem d_LW_refuses_464 : decode Y_LW_refuses.2.1 464 = .ok (.bipush (9), 2) := by decide +kernel
theorem d_LW_refuses_466 : decode Y_LW_refuses.2.1 466 = .ok (.irem, 1) := by decide +kernel
theorem d_LW_refuses_467 : decode Y_LW_refuses.2.1 467 = .ok (.iadd, 1) := by decide +kernel
theorem d_LW_refuses_468 : decode Y_LW_refuses.2.1 468 = .ok (.iconst (1), 1) := by decide +kernel
theorem d_LW_refuses_469 : decode Y_LW_refuses.2.1 469 = .ok (.iconst (1), 1) := by decide +kernel
theorem d_LW_refuses_470 : decode Y_LW_refuses.2.1 470 = .ok (.invokestatic 160, 3) := by decide +kernel
theorem d_LW_refuses_473 : decode Y_LW_refuses.2.1 473 = .ok (.ldc 15, 2) := by decide +kernel
theorem d_LW_refuses_475 : decode Y_LW_refuses.2.1 475 = .ok (.if_icmp .ne (524), 3) := by decide +kernel
theorem d_LW_refuses_478 : decode Y_LW_refuses.2.1 478 = .ok (.aload_n 0, 1) := by decide +kernel
theorem d_LW_refuses_479 : decode Y_LW_refuses.2.1 479 = .ok (.iconst (0), 1) := by decide +kernel
theorem d_LW_refuses_480 : decode Y_LW_refuses.2.1 480 = .ok (.iconst (0), 1) := by decide +kernel
theorem d_LW_refuses_481 : decode Y_LW_refuses.2.1 481 = .ok (.iconst (1), 1) := by decide +kernel
theorem d_LW_refuses_482 : decode Y_LW_refuses.2.1 482 = .ok (.iload_n 1, 1) := by decide +kernel
theorem d_LW_refuses_483 : decode Y_LW_refuses.2.1 483 = .ok (.iconst (2), 1) := by decide +kernel
theorem d_LW_refuses_484 : decode Y_LW_refuses.2.1 484 = .ok (.irem, 1) := by decide +kernel
theorem d_LW_refuses_485 : decode Y_LW_refuses.2.1 485 = .ok (.ifCond .ne (8), 3) := by decide +kernel
theorem d_LW_refuses_488 : decode Y_LW_refuses.2.1 488 = .ok (.bipush (-4), 2) := by decide +kernel
theorem d_LW_refuses_490 : decode Y_LW_refuses.2.1 490 = .ok (.goto (9), 3) := by decide +kernel
theorem d_LW_refuses_493 : decode Y_LW_refuses.2.1 493 = .ok (.iconst (4), 1) := by decide +kernel
theorem d_LW_refuses_494 : decode Y_LW_refuses.2.1 494 = .ok (.iload_n 1, 1) := by decide +kernel
theorem d_LW_refuses_495 : decode Y_LW_refuses.2.1 495 = .ok (.bipush (9), 2) := by decide +kernel
theorem d_LW_refuses_497 : decode Y_LW_refuses.2.1 497 = .ok (.irem, 1) := by decide +kernel
theorem d_LW_refuses_498 : decode Y_LW_refuses.2.1 498 = .ok (.iadd, 1) := by decide +kernel
theorem d_LW_refuses_499 : decode Y_LW_refuses.2.1 499 = .ok (.iconst (1), 1) := by decide +kernel
theorem d_LW_refuses_500 : decode Y_LW_refuses.2.1 500 = .ok (.invokestatic 160, 3) := by decide +kernel
theorem d_LW_refuses_503 : decode Y_LW_refuses.2.1 503 = .ok (.ldc 15, 2) := by decide +kernel
theorem d_LW_refuses_505 : decode Y_LW_refuses.2.1 505 = .ok (.if_icmp .ne (494), 3) := by decide +kernel
theorem d_LW_refuses_508 : decode Y_LW_refuses.2.1 508 = .ok (.aload_n 0, 1) := by decide +kernel
theorem d_LW_refuses_509 : decode Y_LW_refuses.2.1 509 = .ok (.iconst (0), 1) := by decide +kernel
theorem d_LW_refuses_510 : decode Y_LW_refuses.2.1 510 = .ok (.iconst (0), 1) := by decide +kernel
theorem d_LW_refuses_511 : decode Y_LW_refuses.2.1 511 = .ok (.iconst (1), 1) := by decide +kernel
theorem d_LW_refuses_512 : decode Y_LW_refuses.2.1 512 = .ok (.iconst (1), 1) := by decide +kernel
theorem d_LW_refuses_513 : decode Y_LW_refuses.2.1 513 = .ok (.iload_n 1, 1) := by decide +kernel
theorem d_LW_refuses_514 : decode Y_LW_refuses.2.1 514 = .ok (.iconst (2), 1) := by decide +kernel
theorem d_LW_refuses_515 : decode Y_LW_refuses.2.1 515 = .ok (.irem, 1) := by decide +kernel
theorem d_LW_refuses_516 : decode Y_LW_refuses.2.1 516 = .ok (.ifCond .ne (7), 3) := by decide +kernel
theorem d_LW_refuses_519 : decode Y_LW_refuses.2.1 519 = .ok (.iconst (0), 1) := by decide +kernel
theorem d_LW_refuses_520 : decode Y_LW_refuses.2.1 520 = .ok (.goto (10), 3) := by decide +kernel
theorem d_LW_refuses_523 : decode Y_LW_refuses.2.1 523 = .ok (.bipush (21), 2) := by decide +kernel
theorem d_LW_refuses_525 : decode Y_LW_refuses.2.1 525 = .ok (.iload_n 1, 1) := by decide +kernel
theorem d_LW_refuses_526 : decode Y_LW_refuses.2.1 526 = .ok (.bipush (9), 2) := by decide +kernel
theorem d_LW_refuses_528 : decode Y_LW_refuses.2.1 528 = .ok (.irem, 1) := by decide +kernel
theorem d_LW_refuses_529 : decode Y_LW_refuses.2.1 529 = .ok (.iadd, 1) := by decide +kernel
theorem d_LW_refuses_530 : decode Y_LW_refuses.2.1 530 = .ok (.invokestatic 160, 3) := by decide +kernel
theorem d_LW_refuses_533 : decode Y_LW_refuses.2.1 533 = .ok (.ldc 15, 2) := by decide +kernel
theorem d_LW_refuses_535 : decode Y_LW_refuses.2.1 535 = .ok (.if_icmp .ne (464), 3) := by decide +kernel
theorem d_LW_refuses_538 : decode Y_LW_refuses.2.1 538 = .ok (.aload_n 0, 1) := by decide +kernel
theorem d_LW_refuses_539 : decode Y_LW_refuses.2.1 539 = .ok (.iload 9, 2) := by decide +kernel
theorem d_LW_refuses_541 : decode Y_LW_refuses.2.1 541 = .ok (.iconst (0), 1) := by decide +kernel
theorem d_LW_refuses_542 : decode Y_LW_refuses.2.1 542 = .ok (.iconst (0), 1) := by decide +kernel
theorem d_LW_refuses_543 : decode Y_LW_refuses.2.1 543 = .ok (.iconst (0), 1) := by decide +kernel
theorem d_LW_refuses_544 : decode Y_LW_refuses.2.1 544 = .ok (.invokestatic 164, 3) := by decide +kernel
theorem d_LW_refuses_547 : decode Y_LW_refuses.2.1 547 = .ok (.ldc 15, 2) := by decide +kernel
theorem d_LW_refuses_549 : decode Y_LW_refuses.2.1 549 = .ok (.if_icmp .ne (450), 3) := by decide +kernel
theorem d_LW_refuses_552 : decode Y_LW_refuses.2.1 552 = .ok (.aload_n 0, 1) := by decide +kernel
theorem d_LW_refuses_553 : decode Y_LW_refuses.2.1 553 = .ok (.iconst (0), 1) := by decide +kernel
theorem d_LW_refuses_554 : decode Y_LW_refuses.2.1 554 = .ok (.iload 9, 2) := by decide +kernel
theorem d_LW_refuses_556 : decode Y_LW_refuses.2.1 556 = .ok (.iconst (0), 1) := by decide +kernel
theorem d_LW_refuses_557 : decode Y_LW_refuses.2.1 557 = .ok (.iconst (0), 1) := by decide +kernel
theorem d_LW_refuses_558 : decode Y_LW_refuses.2.1 558 = .ok (.invokestatic 164, 3) := by decide +kernel
theorem d_LW_refuses_561 : decode Y_LW_refuses.2.1 561 = .ok (.ldc 15, 2) := by decide +kernel
theorem d_LW_refuses_563 : decode Y_LW_refuses.2.1 563 = .ok (.if_icmp .ne (436), 3) := by decide +kernel
theorem d_LW_refuses_566 : decode Y_LW_refuses.2.1 566 = .ok (.aload_n 0, 1) := by decide +kernel
theorem d_LW_refuses_567 : decode Y_LW_refuses.2.1 567 = .ok (.iconst (0), 1) := by decide +kernel
theorem d_LW_refuses_568 : decode Y_LW_refuses.2.1 568 = .ok (.iconst (0), 1) := by decide +kernel
theorem d_LW_refuses_569 : decode Y_LW_refuses.2.1 569 = .ok (.iload 10, 2) := by decide +kernel
theorem d_LW_refuses_571 : decode Y_LW_refuses.2.1 571 = .ok (.iconst (0), 1) := by decide +kernel
theorem d_LW_refuses_572 : decode Y_LW_refuses.2.1 572 = .ok (.invokestatic 164, 3) := by decide +kernel
theorem d_LW_refuses_575 : decode Y_LW_refuses.2.1 575 = .ok (.ldc 15, 2) := by decide +kernel
theorem d_LW_refuses_577 : decode Y_LW_refuses.2.1 577 = .ok (.if_icmp .ne (422), 3) := by decide +kernel
theorem d_LW_refuses_580 : decode Y_LW_refuses.2.1 580 = .ok (.aload_n 0, 1) := by decide +kernel
theorem d_LW_refuses_581 : decode Y_LW_refuses.2.1 581 = .ok (.iconst (0), 1) := by decide +kernel
theorem d_LW_refuses_582 : decode Y_LW_refuses.2.1 582 = .ok (.iconst (0), 1) := by decide +kernel
theorem d_LW_refuses_583 : decode Y_LW_refuses.2.1 583 = .ok (.iconst (0), 1) := by decide +kernel
theorem d_LW_refuses_584 : decode Y_LW_refuses.2.1 584 = .ok (.iload 10, 2) := by decide +kernel
theorem d_LW_refuses_586 : decode Y_LW_refuses.2.1 586 = .ok (.invokestatic 164, 3) := by decide +kernel
theorem d_LW_refuses_589 : decode Y_LW_refuses.2.1 589 = .ok (.ldc 15, 2) := by decide +kernel
theorem d_LW_refuses_591 : decode Y_LW_refuses.2.1 591 = .ok (.if_icmp .ne (408), 3) := by decide +kernel
theorem d_LW_refuses_594 : decode Y_LW_refuses.2.1 594 = .ok (.aload_n 0, 1) := by decide +kernel
theorem d_LW_refuses_595 : decode Y_LW_refuses.2.1 595 = .ok (.iload_n 1, 1) := by decide +kernel
theorem d_LW_refuses_596 : decode Y_LW_refuses.2.1 596 = .ok (.iconst (2), 1) := by decide +kernel
theorem d_LW_refuses_597 : decode Y_LW_refuses.2.1 597 = .ok (.irem, 1) := by decide +kernel
theorem d_LW_refuses_598 : decode Y_LW_refuses.2.1 598 = .ok (.ifCond .ne (7), 3) := by decide +kernel
theorem d_LW_refuses_601 : decode Y_LW_refuses.2.1 601 = .ok (.iconst (1), 1) := by decide +kernel
theorem d_LW_refuses_602 : decode Y_LW_refuses.2.1 602 = .ok (.goto (4), 3) := by decide +kernel
theorem d_LW_refuses_605 : decode Y_LW_refuses.2.1 605 = .ok (.iconst (0), 1) := by decide +kernel
theorem d_LW_refuses_606 : decode Y_LW_refuses.2.1 606 = .ok (.iload 9, 2) := by decide +kernel
theorem d_LW_refuses_608 : decode Y_LW_refuses.2.1 608 = .ok (.invokestatic 167, 3) := by decide +kernel
theorem d_LW_refuses_611 : decode Y_LW_refuses.2.1 611 = .ok (.ldc 15, 2) := by decide +kernel
theorem d_LW_refuses_613 : decode Y_LW_refuses.2.1 613 = .ok (.if_icmp .ne (386), 3) := by decide +kernel
theorem d_LW_refuses_616 : decode Y_LW_refuses.2.1 616 = .ok (.aload_n 0, 1) := by decide +kernel
theorem d_LW_refuses_617 : decode Y_LW_refuses.2.1 617 = .ok (.iload 6, 2) := by decide +kernel
theorem d_LW_refuses_619 : decode Y_LW_refuses.2.1 619 = .ok (.iconst (1), 1) := by decide +kernel
theorem d_LW_refuses_620 : decode Y_LW_refuses.2.1 620 = .ok (.invokestatic 171, 3) := by decide +kernel
theorem d_LW_refuses_623 : decode Y_LW_refuses.2.1 623 = .ok (.ldc 33, 2) := by decide +kernel
theorem d_LW_refuses_625 : decode Y_LW_refuses.2.1 625 = .ok (.if_icmp .ne (374), 3) := by decide +kernel
theorem d_LW_refuses_628 : decode Y_LW_refuses.2.1 628 = .ok (.aload_n 0, 1) := by decide +kernel
theorem d_LW_refuses_629 : decode Y_LW_refuses.2.1 629 = .ok (.bipush (8), 2) := by decide +kernel
theorem d_LW_refuses_631 : decode Y_LW_refuses.2.1 631 = .ok (.iload 7, 2) := by decide +kernel
theorem d_LW_refuses_633 : decode Y_LW_refuses.2.1 633 = .ok (.bipush (9), 2) := by decide +kernel
theorem d_LW_refuses_635 : decode Y_LW_refuses.2.1 635 = .ok (.bipush (9), 2) := by decide +kernel
theorem d_LW_refuses_637 : decode Y_LW_refuses.2.1 637 = .ok (.invokestatic 156, 3) := by decide +kernel
theorem d_LW_refuses_640 : decode Y_LW_refuses.2.1 640 = .ok (.ldc 33, 2) := by decide +kernel
theorem d_LW_refuses_642 : decode Y_LW_refuses.2.1 642 = .ok (.if_icmp .ne (357), 3) := by decide +kernel
theorem d_LW_refuses_645 : decode Y_LW_refuses.2.1 645 = .ok (.aload_n 0, 1) := by decide +kernel
theorem d_LW_refuses_646 : decode Y_LW_refuses.2.1 646 = .ok (.bipush (8), 2) := by decide +kernel
theorem d_LW_refuses_648 : decode Y_LW_refuses.2.1 648 = .ok (.iconst (0), 1) := by decide +kernel
theorem d_LW_refuses_649 : decode Y_LW_refuses.2.1 649 = .ok (.iload 10, 2) := by decide +kernel
theorem d_LW_refuses_651 : decode Y_LW_refuses.2.1 651 = .ok (.iconst (0), 1) := by decide +kernel
theorem d_LW_refuses_652 : decode Y_LW_refuses.2.1 652 = .ok (.invokestatic 156, 3) := by decide +kernel
theorem d_LW_refuses_655 : decode Y_LW_refuses.2.1 655 = .ok (.ldc 15, 2) := by decide +kernel
theorem d_LW_refuses_657 : decode Y_LW_refuses.2.1 657 = .ok (.if_icmp .ne (342), 3) := by decide +kernel
theorem d_LW_refuses_660 : decode Y_LW_refuses.2.1 660 = .ok (.aload_n 0, 1) := by decide +kernel
theorem d_LW_refuses_661 : decode Y_LW_refuses.2.1 661 = .ok (.bipush (8), 2) := by decide +kernel
theorem d_LW_refuses_663 : decode Y_LW_refuses.2.1 663 = .ok (.iconst (0), 1) := by decide +kernel
theorem d_LW_refuses_664 : decode Y_LW_refuses.2.1 664 = .ok (.iconst (0), 1) := by decide +kernel
theorem d_LW_refuses_665 : decode Y_LW_refuses.2.1 665 = .ok (.iload 10, 2) := by decide +kernel
theorem d_LW_refuses_667 : decode Y_LW_refuses.2.1 667 = .ok (.invokestatic 156, 3) := by decide +kernel
theorem d_LW_refuses_670 : decode Y_LW_refuses.2.1 670 = .ok (.ldc 15, 2) := by decide +kernel
theorem d_LW_refuses_672 : decode Y_LW_refuses.2.1 672 = .ok (.if_icmp .ne (327), 3) := by decide +kernel
theorem d_LW_refuses_675 : decode Y_LW_refuses.2.1 675 = .ok (.aload_n 0, 1) := by decide +kernel
theorem d_LW_refuses_676 : decode Y_LW_refuses.2.1 676 = .ok (.bipush (9), 2) := by decide +kernel
theorem d_LW_refuses_678 : decode Y_LW_refuses.2.1 678 = .ok (.iload_n 1, 1) := by decide +kernel
theorem d_LW_refuses_679 : decode Y_LW_refuses.2.1 679 = .ok (.iconst (2), 1) := by decide +kernel
theorem d_LW_refuses_680 : decode Y_LW_refuses.2.1 680 = .ok (.irem, 1) := by decide +kernel
theorem d_LW_refuses_681 : decode Y_LW_refuses.2.1 681 = .ok (.ifCond .ne (7), 3) := by decide +kernel
theorem d_LW_refuses_684 : decode Y_LW_refuses.2.1 684 = .ok (.iconst (0), 1) := by decide +kernel
theorem d_LW_refuses_685 : decode Y_LW_refuses.2.1 685 = .ok (.goto (10), 3) := by decide +kernel
theorem d_LW_refuses_688 : decode Y_LW_refuses.2.1 688 = .ok (.bipush (100), 2) := by decide +kernel
theorem d_LW_refuses_690 : decode Y_LW_refuses.2.1 690 = .ok (.iload_n 1, 1) := by decide +kernel
theorem d_LW_refuses_691 : decode Y_LW_refuses.2.1 691 = .ok (.bipush (9), 2) := by decide +kernel
theorem d_LW_refuses_693 : decode Y_LW_refuses.2.1 693 = .ok (.irem, 1) := by decide +kernel
theorem d_LW_refuses_694 : decode Y_LW_refuses.2.1 694 = .ok (.iadd, 1) := by decide +kernel
theorem d_LW_refuses_695 : decode Y_LW_refuses.2.1 695 = .ok (.iconst (0), 1) := by decide +kernel
theorem d_LW_refuses_696 : decode Y_LW_refuses.2.1 696 = .ok (.iconst (0), 1) := by decide +kernel
theorem d_LW_refuses_697 : decode Y_LW_refuses.2.1 697 = .ok (.invokestatic 156, 3) := by decide +kernel
theorem d_LW_refuses_700 : decode Y_LW_refuses.2.1 700 = .ok (.ldc 15, 2) := by decide +kernel
theorem d_LW_refuses_702 : decode Y_LW_refuses.2.1 702 = .ok (.if_icmp .ne (297), 3) := by decide +kernel
theorem d_LW_refuses_705 : decode Y_LW_refuses.2.1 705 = .ok (.aload_n 0, 1) := by decide +kernel
theorem d_LW_refuses_706 : decode Y_LW_refuses.2.1 706 = .ok (.bipush (10), 2) := by decide +kernel
theorem d_LW_refuses_708 : decode Y_LW_refuses.2.1 708 = .ok (.iconst (0), 1) := by decide +kernel
theorem d_LW_refuses_709 : decode Y_LW_refuses.2.1 709 = .ok (.iload_n 1, 1) := by decide +kernel
theorem d_LW_refuses_710 : decode Y_LW_refuses.2.1 710 = .ok (.iconst (2), 1) := by decide +kernel
theorem d_LW_refuses_711 : decode Y_LW_refuses.2.1 711 = .ok (.irem, 1) := by decide +kernel
theorem d_LW_refuses_712 : decode Y_LW_refuses.2.1 712 = .ok (.ifCond .ne (7), 3) := by decide +kernel
theorem d_LW_refuses_715 : decode Y_LW_refuses.2.1 715 = .ok (.iconst (0), 1) := by decide +kernel
theorem d_LW_refuses_716 : decode Y_LW_refuses.2.1 716 = .ok (.goto (10), 3) := by decide +kernel
theorem d_LW_refuses_719 : decode Y_LW_refuses.2.1 719 = .ok (.bipush (10), 2) := by decide +kernel
theorem d_LW_refuses_721 : decode Y_LW_refuses.2.1 721 = .ok (.iload_n 1, 1) := by decide +kernel
theorem d_LW_refuses_722 : decode Y_LW_refuses.2.1 722 = .ok (.bipush (9), 2) := by decide +kernel
theorem d_LW_refuses_724 : decode Y_LW_refuses.2.1 724 = .ok (.irem, 1) := by decide +kernel
theorem d_LW_refuses_725 : decode Y_LW_refuses.2.1 725 = .ok (.iadd, 1) := by decide +kernel
theorem d_LW_refuses_726 : decode Y_LW_refuses.2.1 726 = .ok (.iconst (0), 1) := by decide +kernel
theorem d_LW_refuses_727 : decode Y_LW_refuses.2.1 727 = .ok (.invokestatic 156, 3) := by decide +kernel
theorem d_LW_refuses_730 : decode Y_LW_refuses.2.1 730 = .ok (.ldc 15, 2) := by decide +kernel
theorem d_LW_refuses_732 : decode Y_LW_refuses.2.1 732 = .ok (.if_icmp .ne (267), 3) := by decide +kernel
theorem d_LW_refuses_735 : decode Y_LW_refuses.2.1 735 = .ok (.aload_n 0, 1) := by decide +kernel
theorem d_LW_refuses_736 : decode Y_LW_refuses.2.1 736 = .ok (.bipush (10), 2) := by decide +kernel
theorem d_LW_refuses_738 : decode Y_LW_refuses.2.1 738 = .ok (.iconst (1), 1) := by decide +kernel
theorem d_LW_refuses_739 : decode Y_LW_refuses.2.1 739 = .ok (.iload_n 1, 1) := by decide +kernel
theorem d_LW_refuses_740 : decode Y_LW_refuses.2.1 740 = .ok (.iconst (2), 1) := by decide +kernel
theorem d_LW_refuses_741 : decode Y_LW_refuses.2.1 741 = .ok (.irem, 1) := by decide +kernel
theorem d_LW_refuses_742 : decode Y_LW_refuses.2.1 742 = .ok (.ifCond .ne (7), 3) := by decide +kernel
theorem d_LW_refuses_745 : decode Y_LW_refuses.2.1 745 = .ok (.iconst (0), 1) := by decide +kernel
theorem d_LW_refuses_746 : decode Y_LW_refuses.2.1 746 = .ok (.goto (10), 3) := by decide +kernel
theorem d_LW_refuses_749 : decode Y_LW_refuses.2.1 749 = .ok (.bipush (100), 2) := by decide +kernel
theorem d_LW_refuses_751 : decode Y_LW_refuses.2.1 751 = .ok (.iload_n 1, 1) := by decide +kernel
theorem d_LW_refuses_752 : decode Y_LW_refuses.2.1 752 = .ok (.bipush (9), 2) := by decide +kernel
theorem d_LW_refuses_754 : decode Y_LW_refuses.2.1 754 = .ok (.irem, 1) := by decide +kernel
theorem d_LW_refuses_755 : decode Y_LW_refuses.2.1 755 = .ok (.iadd, 1) := by decide +kernel
theorem d_LW_refuses_756 : decode Y_LW_refuses.2.1 756 = .ok (.iconst (0), 1) := by decide +kernel
theorem d_LW_refuses_757 : decode Y_LW_refuses.2.1 757 = .ok (.invokestatic 156, 3) := by decide +kernel
theorem d_LW_refuses_760 : decode Y_LW_refuses.2.1 760 = .ok (.ldc 15, 2) := by decide +kernel
theorem d_LW_refuses_762 : decode Y_LW_refuses.2.1 762 = .ok (.if_icmp .ne (237), 3) := by decide +kernel
theorem d_LW_refuses_765 : decode Y_LW_refuses.2.1 765 = .ok (.aload_n 0, 1) := by decide +kernel
theorem d_LW_refuses_766 : decode Y_LW_refuses.2.1 766 = .ok (.bipush (10), 2) := by decide +kernel
theorem d_LW_refuses_768 : decode Y_LW_refuses.2.1 768 = .ok (.iconst (2), 1) := by decide +kernel
theorem d_LW_refuses_769 : decode Y_LW_refuses.2.1 769 = .ok (.iload_n 1, 1) := by decide +kernel
theorem d_LW_refuses_770 : decode Y_LW_refuses.2.1 770 = .ok (.bipush (9), 2) := by decide +kernel
theorem d_LW_refuses_772 : decode Y_LW_refuses.2.1 772 = .ok (.irem, 1) := by decide +kernel
theorem d_LW_refuses_773 : decode Y_LW_refuses.2.1 773 = .ok (.iadd, 1) := by decide +kernel
theorem d_LW_refuses_774 : decode Y_LW_refuses.2.1 774 = .ok (.iconst (5), 1) := by decide +kernel
theorem d_LW_refuses_775 : decode Y_LW_refuses.2.1 775 = .ok (.iconst (0), 1) := by decide +kernel
theorem d_LW_refuses_776 : decode Y_LW_refuses.2.1 776 = .ok (.invokestatic 156, 3) := by decide +kernel
theorem d_LW_refuses_779 : decode Y_LW_refuses.2.1 779 = .ok (.ldc 15, 2) := by decide +kernel
theorem d_LW_refuses_781 : decode Y_LW_refuses.2.1 781 = .ok (.if_icmp .ne (218), 3) := by decide +kernel
theorem d_LW_refuses_784 : decode Y_LW_refuses.2.1 784 = .ok (.aload_n 0, 1) := by decide +kernel
theorem d_LW_refuses_785 : decode Y_LW_refuses.2.1 785 = .ok (.bipush (12), 2) := by decide +kernel
theorem d_LW_refuses_787 : decode Y_LW_refuses.2.1 787 = .ok (.iload 6, 2) := by decide +kernel
theorem d_LW_refuses_789 : decode Y_LW_refuses.2.1 789 = .ok (.sipush (9999), 3) := by decide +kernel
theorem d_LW_refuses_792 : decode Y_LW_refuses.2.1 792 = .ok (.bipush (9), 2) := by decide +kernel
theorem d_LW_refuses_794 : decode Y_LW_refuses.2.1 794 = .ok (.invokestatic 156, 3) := by decide +kernel
theorem d_LW_refuses_797 : decode Y_LW_refuses.2.1 797 = .ok (.ldc 33, 2) := by decide +kernel
theorem d_LW_refuses_799 : decode Y_LW_refuses.2.1 799 = .ok (.if_icmp .ne (200), 3) := by decide +kernel
theorem d_LW_refuses_802 : decode Y_LW_refuses.2.1 802 = .ok (.aload_n 0, 1) := by decide +kernel
theorem d_LW_refuses_803 : decode Y_LW_refuses.2.1 803 = .ok (.bipush (12), 2) := by decide +kernel
theorem d_LW_refuses_805 : decode Y_LW_refuses.2.1 805 = .ok (.iconst (0), 1) := by decide +kernel
theorem d_LW_refuses_806 : decode Y_LW_refuses.2.1 806 = .ok (.iload_n 1, 1) := by decide +kernel
theorem d_LW_refuses_807 : decode Y_LW_refuses.2.1 807 = .ok (.iconst (2), 1) := by decide +kernel
theorem d_LW_refuses_808 : decode Y_LW_refuses.2.1 808 = .ok (.irem, 1) := by decide +kernel
theorem d_LW_refuses_809 : decode Y_LW_refuses.2.1 809 = .ok (.ifCond .ne (7), 3) := by decide +kernel
theorem d_LW_refuses_812 : decode Y_LW_refuses.2.1 812 = .ok (.iconst (-1), 1) := by decide +kernel
theorem d_LW_refuses_813 : decode Y_LW_refuses.2.1 813 = .ok (.goto (11), 3) := by decide +kernel
theorem d_LW_refuses_816 : decode Y_LW_refuses.2.1 816 = .ok (.sipush (1001), 3) := by decide +kernel
theorem d_LW_refuses_819 : decode Y_LW_refuses.2.1 819 = .ok (.iload_n 1, 1) := by decide +kernel
theorem d_LW_refuses_820 : decode Y_LW_refuses.2.1 820 = .ok (.bipush (9), 2) := by decide +kernel
theorem d_LW_refuses_822 : decode Y_LW_refuses.2.1 822 = .ok (.irem, 1) := by decide +kernel
theorem d_LW_refuses_823 : decode Y_LW_refuses.2.1 823 = .ok (.iadd, 1) := by decide +kernel
theorem d_LW_refuses_824 : decode Y_LW_refuses.2.1 824 = .ok (.iconst (0), 1) := by decide +kernel
theorem d_LW_refuses_825 : decode Y_LW_refuses.2.1 825 = .ok (.invokestatic 156, 3) := by decide +kernel
theorem d_LW_refuses_828 : decode Y_LW_refuses.2.1 828 = .ok (.ldc 15, 2) := by decide +kernel
theorem d_LW_refuses_830 : decode Y_LW_refuses.2.1 830 = .ok (.if_icmp .ne (169), 3) := by decide +kernel
theorem d_LW_refuses_833 : decode Y_LW_refuses.2.1 833 = .ok (.aload_n 0, 1) := by decide +kernel
theorem d_LW_refuses_834 : decode Y_LW_refuses.2.1 834 = .ok (.bipush (12), 2) := by decide +kernel
theorem d_LW_refuses_836 : decode Y_LW_refuses.2.1 836 = .ok (.iconst (0), 1) := by decide +kernel
theorem d_LW_refuses_837 : decode Y_LW_refuses.2.1 837 = .ok (.iconst (0), 1) := by decide +kernel
theorem d_LW_refuses_838 : decode Y_LW_refuses.2.1 838 = .ok (.iconst (2), 1) := by decide +kernel
theorem d_LW_refuses_839 : decode Y_LW_refuses.2.1 839 = .ok (.iload_n 1, 1) := by decide +kernel
theorem d_LW_refuses_840 : decode Y_LW_refuses.2.1 840 = .ok (.bipush (9), 2) := by decide +kernel
theorem d_LW_refuses_842 : decode Y_LW_refuses.2.1 842 = .ok (.irem, 1) := by decide +kernel
theorem d_LW_refuses_843 : decode Y_LW_refuses.2.1 843 = .ok (.iadd, 1) := by decide +kernel
theorem d_LW_refuses_844 : decode Y_LW_refuses.2.1 844 = .ok (.invokestatic 156, 3) := by decide +kernel
theorem d_LW_refuses_847 : decode Y_LW_refuses.2.1 847 = .ok (.ldc 15, 2) := by decide +kernel
theorem d_LW_refuses_849 : decode Y_LW_refuses.2.1 849 = .ok (.if_icmp .ne (150), 3) := by decide +kernel
theorem d_LW_refuses_852 : decode Y_LW_refuses.2.1 852 = .ok (.aload_n 0, 1) := by decide +kernel
theorem d_LW_refuses_853 : decode Y_LW_refuses.2.1 853 = .ok (.bipush (13), 2) := by decide +kernel
theorem d_LW_refuses_855 : decode Y_LW_refuses.2.1 855 = .ok (.iload 7, 2) := by decide +kernel
theorem d_LW_refuses_857 : decode Y_LW_refuses.2.1 857 = .ok (.iconst (0), 1) := by decide +kernel
theorem d_LW_refuses_858 : decode Y_LW_refuses.2.1 858 = .ok (.iconst (0), 1) := by decide +kernel
theorem d_LW_refuses_859 : decode Y_LW_refuses.2.1 859 = .ok (.invokestatic 156, 3) := by decide +kernel
theorem d_LW_refuses_862 : decode Y_LW_refuses.2.1 862 = .ok (.ldc 33, 2) := by decide +kernel
theorem d_LW_refuses_864 : decode Y_LW_refuses.2.1 864 = .ok (.if_icmp .ne (135), 3) := by decide +kernel
theorem d_LW_refuses_867 : decode Y_LW_refuses.2.1 867 = .ok (.aload_n 0, 1) := by decide +kernel
theorem d_LW_refuses_868 : decode Y_LW_refuses.2.1 868 = .ok (.bipush (13), 2) := by decide +kernel
theorem d_LW_refuses_870 : decode Y_LW_refuses.2.1 870 = .ok (.iconst (0), 1) := by decide +kernel
theorem d_LW_refuses_871 : decode Y_LW_refuses.2.1 871 = .ok (.iload 6, 2) := by decide +kernel
theorem d_LW_refuses_873 : decode Y_LW_refuses.2.1 873 = .ok (.iconst (0), 1) := by decide +kernel
theorem d_LW_refuses_874 : decode Y_LW_refuses.2.1 874 = .ok (.invokestatic 156, 3) := by decide +kernel
theorem d_LW_refuses_877 : decode Y_LW_refuses.2.1 877 = .ok (.ldc 33, 2) := by decide +kernel
theorem d_LW_refuses_879 : decode Y_LW_refuses.2.1 879 = .ok (.if_icmp .ne (120), 3) := by decide +kernel
theorem d_LW_refuses_882 : decode Y_LW_refuses.2.1 882 = .ok (.aload_n 0, 1) := by decide +kernel
theorem d_LW_refuses_883 : decode Y_LW_refuses.2.1 883 = .ok (.bipush (14), 2) := by decide +kernel
theorem d_LW_refuses_885 : decode Y_LW_refuses.2.1 885 = .ok (.iload_n 1, 1) := by decide +kernel
theorem d_LW_refuses_886 : decode Y_LW_refuses.2.1 886 = .ok (.iconst (2), 1) := by decide +kernel
theorem d_LW_refuses_887 : decode Y_LW_refuses.2.1 887 = .ok (.irem, 1) := by decide +kernel
theorem d_LW_refuses_888 : decode Y_LW_refuses.2.1 888 = .ok (.ifCond .ne (7), 3) := by decide +kernel
theorem d_LW_refuses_891 : decode Y_LW_refuses.2.1 891 = .ok (.iconst (0), 1) := by decide +kernel
theorem d_LW_refuses_892 : decode Y_LW_refuses.2.1 892 = .ok (.goto (10), 3) := by decide +kernel
theorem d_LW_refuses_895 : decode Y_LW_refuses.2.1 895 = .ok (.bipush (100), 2) := by decide +kernel
theorem d_LW_refuses_897 : decode Y_LW_refuses.2.1 897 = .ok (.iload_n 1, 1) := by decide +kernel
theorem d_LW_refuses_898 : decode Y_LW_refuses.2.1 898 = .ok (.bipush (9), 2) := by decide +kernel
theorem d_LW_refuses_900 : decode Y_LW_refuses.2.1 900 = .ok (.irem, 1) := by decide +kernel
theorem d_LW_refuses_901 : decode Y_LW_refuses.2.1 901 = .ok (.iadd, 1) := by decide +kernel
theorem d_LW_refuses_902 : decode Y_LW_refuses.2.1 902 = .ok (.iconst (0), 1) := by decide +kernel
theorem d_LW_refuses_903 : decode Y_LW_refuses.2.1 903 = .ok (.iconst (0), 1) := by decide +kernel
theorem d_LW_refuses_904 : decode Y_LW_refuses.2.1 904 = .ok (.invokestatic 156, 3) := by decide +kernel
theorem d_LW_refuses_907 : decode Y_LW_refuses.2.1 907 = .ok (.ldc 15, 2) := by decide +kernel
theorem d_LW_refuses_909 : decode Y_LW_refuses.2.1 909 = .ok (.if_icmp .ne (90), 3) := by decide +kernel
theorem d_LW_refuses_912 : decode Y_LW_refuses.2.1 912 = .ok (.aload_n 0, 1) := by decide +kernel
theorem d_LW_refuses_913 : decode Y_LW_refuses.2.1 913 = .ok (.bipush (15), 2) := by decide +kernel
theorem d_LW_refuses_915 : decode Y_LW_refuses.2.1 915 = .ok (.iconst (2), 1) := by decide +kernel
theorem d_LW_refuses_916 : decode Y_LW_refuses.2.1 916 = .ok (.iload_n 1, 1) := by decide +kernel
theorem d_LW_refuses_917 : decode Y_LW_refuses.2.1 917 = .ok (.bipush (50), 2) := by decide +kernel
theorem d_LW_refuses_919 : decode Y_LW_refuses.2.1 919 = .ok (.irem, 1) := by decide +kernel
theorem d_LW_refuses_920 : decode Y_LW_refuses.2.1 920 = .ok (.iadd, 1) := by decide +kernel
theorem d_LW_refuses_921 : decode Y_LW_refuses.2.1 921 = .ok (.iconst (0), 1) := by decide +kernel
theorem d_LW_refuses_922 : decode Y_LW_refuses.2.1 922 = .ok (.iconst (0), 1) := by decide +kernel
theorem d_LW_refuses_923 : decode Y_LW_refuses.2.1 923 = .ok (.invokestatic 156, 3) := by decide +kernel
theorem d_LW_refuses_926 : decode Y_LW_refuses.2.1 926 = .ok (.ldc 33, 2) := by decide +kernel
theorem d_LW_refuses_928 : decode Y_LW_refuses.2.1 928 = .ok (.if_icmp .ne (71), 3) := by decide +kernel
theorem d_LW_refuses_931 : decode Y_LW_refuses.2.1 931 = .ok (.aload_n 0, 1) := by decide +kernel
theorem d_LW_refuses_932 : decode Y_LW_refuses.2.1 932 = .ok (.bipush (16), 2) := by decide +kernel
theorem d_LW_refuses_934 : decode Y_LW_refuses.2.1 934 = .ok (.iconst (-1), 1) := by decide +kernel
theorem d_LW_refuses_935 : decode Y_LW_refuses.2.1 935 = .ok (.iload_n 1, 1) := by decide +kernel
theorem d_LW_refuses_936 : decode Y_LW_refuses.2.1 936 = .ok (.bipush (9), 2) := by decide +kernel
theorem d_LW_refuses_938 : decode Y_LW_refuses.2.1 938 = .ok (.irem, 1) := by decide +kernel
theorem d_LW_refuses_939 : decode Y_LW_refuses.2.1 939 = .ok (.isub, 1) := by decide +kernel
theorem d_LW_refuses_940 : decode Y_LW_refuses.2.1 940 = .ok (.iconst (0), 1) := by decide +kernel
theorem d_LW_refuses_941 : decode Y_LW_refuses.2.1 941 = .ok (.iconst (0), 1) := by decide +kernel
theorem d_LW_refuses_942 : decode Y_LW_refuses.2.1 942 = .ok (.invokestatic 156, 3) := by decide +kernel
theorem d_LW_refuses_945 : decode Y_LW_refuses.2.1 945 = .ok (.ldc 33, 2) := by decide +kernel
theorem d_LW_refuses_947 : decode Y_LW_refuses.2.1 947 = .ok (.if_icmp .ne (52), 3) := by decide +kernel
theorem d_LW_refuses_950 : decode Y_LW_refuses.2.1 950 = .ok (.aload_n 0, 1) := by decide +kernel
theorem d_LW_refuses_951 : decode Y_LW_refuses.2.1 951 = .ok (.iconst (0), 1) := by decide +kernel
theorem d_LW_refuses_952 : decode Y_LW_refuses.2.1 952 = .ok (.lconst 0, 1) := by decide +kernel
theorem d_LW_refuses_953 : decode Y_LW_refuses.2.1 953 = .ok (.invokestatic 175, 3) := by decide +kernel
theorem d_LW_refuses_956 : decode Y_LW_refuses.2.1 956 = .ok (.ldc 15, 2) := by decide +kernel
theorem d_LW_refuses_958 : decode Y_LW_refuses.2.1 958 = .ok (.if_icmp .ne (41), 3) := by decide +kernel
theorem d_LW_refuses_961 : decode Y_LW_refuses.2.1 961 = .ok (.aload_n 0, 1) := by decide +kernel
theorem d_LW_refuses_962 : decode Y_LW_refuses.2.1 962 = .ok (.iconst (1), 1) := by decide +kernel
theorem d_LW_refuses_963 : decode Y_LW_refuses.2.1 963 = .ok (.ldc2_w 179, 3) := by decide +kernel
theorem d_LW_refuses_966 : decode Y_LW_refuses.2.1 966 = .ok (.iload_n 1, 1) := by decide +kernel
theorem d_LW_refuses_967 : decode Y_LW_refuses.2.1 967 = .ok (.i2l, 1) := by decide +kernel
theorem d_LW_refuses_968 : decode Y_LW_refuses.2.1 968 = .ok (.ladd, 1) := by decide +kernel
theorem d_LW_refuses_969 : decode Y_LW_refuses.2.1 969 = .ok (.invokestatic 175, 3) := by decide +kernel
theorem d_LW_refuses_972 : decode Y_LW_refuses.2.1 972 = .ok (.ldc 15, 2) := by decide +kernel
theorem d_LW_refuses_974 : decode Y_LW_refuses.2.1 974 = .ok (.if_icmp .ne (25), 3) := by decide +kernel
theorem d_LW_refuses_977 : decode Y_LW_refuses.2.1 977 = .ok (.aload_n 0, 1) := by decide +kernel
theorem d_LW_refuses_978 : decode Y_LW_refuses.2.1 978 = .ok (.iload_n 1, 1) := by decide +kernel
theorem d_LW_refuses_979 : decode Y_LW_refuses.2.1 979 = .ok (.i2l, 1) := by decide +kernel
theorem d_LW_refuses_980 : decode Y_LW_refuses.2.1 980 = .ok (.bipush (61), 2) := by decide +kernel
theorem d_LW_refuses_982 : decode Y_LW_refuses.2.1 982 = .ok (.iload_n 1, 1) := by decide +kernel
theorem d_LW_refuses_983 : decode Y_LW_refuses.2.1 983 = .ok (.bipush (9), 2) := by decide +kernel
theorem d_LW_refuses_985 : decode Y_LW_refuses.2.1 985 = .ok (.irem, 1) := by decide +kernel
theorem d_LW_refuses_986 : decode Y_LW_refuses.2.1 986 = .ok (.iadd, 1) := by decide +kernel
theorem d_LW_refuses_987 : decode Y_LW_refuses.2.1 987 = .ok (.invokestatic 181, 3) := by decide +kernel
theorem d_LW_refuses_990 : decode Y_LW_refuses.2.1 990 = .ok (.ldc 15, 2) := by decide +kernel
theorem d_LW_refuses_992 : decode Y_LW_refuses.2.1 992 = .ok (.if_icmp .ne (7), 3) := by decide +kernel
theorem d_LW_refuses_995 : decode Y_LW_refuses.2.1 995 = .ok (.iconst (1), 1) := by decide +kernel
theorem d_LW_refuses_996 : decode Y_LW_refuses.2.1 996 = .ok (.goto (4), 3) := by decide +kernel
theorem d_LW_refuses_999 : decode Y_LW_refuses.2.1 999 = .ok (.iconst (0), 1) := by decide +kernel
theorem d_LW_refuses_1000 : decode Y_LW_refuses.2.1 1000 = .ok (.istore 11, 2) := by decide +kernel
theorem d_LW_refuses_1002 : decode Y_LW_refuses.2.1 1002 = .ok (.iload 11, 2) := by decide +kernel
theorem d_LW_refuses_1004 : decode Y_LW_refuses.2.1 1004 = .ok (.ifCond .eq (84), 3) := by decide +kernel
theorem d_LW_refuses_1007 : decode Y_LW_refuses.2.1 1007 = .ok (.iload_n 2, 1) := by decide +kernel
theorem d_LW_refuses_1008 : decode Y_LW_refuses.2.1 1008 = .ok (.iconst (4), 1) := by decide +kernel
theorem d_LW_refuses_1009 : decode Y_LW_refuses.2.1 1009 = .ok (.if_icmp .lt (17), 3) := by decide +kernel
theorem d_LW_refuses_1012 : decode Y_LW_refuses.2.1 1012 = .ok (.aload_n 0, 1) := by decide +kernel
theorem d_LW_refuses_1013 : decode Y_LW_refuses.2.1 1013 = .ok (.iconst (0), 1) := by decide +kernel
theorem d_LW_refuses_1014 : decode Y_LW_refuses.2.1 1014 = .ok (.iconst (0), 1) := by decide +kernel
theorem d_LW_refuses_1015 : decode Y_LW_refuses.2.1 1015 = .ok (.iconst (1), 1) := by decide +kernel
theorem d_LW_refuses_1016 : decode Y_LW_refuses.2.1 1016 = .ok (.iconst (0), 1) := by decide +kernel
theorem d_LW_refuses_1017 : decode Y_LW_refuses.2.1 1017 = .ok (.iconst (1), 1) := by decide +kernel
theorem d_LW_refuses_1018 : decode Y_LW_refuses.2.1 1018 = .ok (.invokestatic 160, 3) := by decide +kernel
theorem d_LW_refuses_1021 : decode Y_LW_refuses.2.1 1021 = .ok (.ldc 18, 2) := by decide +kernel
theorem d_LW_refuses_1023 : decode Y_LW_refuses.2.1 1023 = .ok (.if_icmp .ne (65), 3) := by decide +kernel
theorem d_LW_refuses_1026 : decode Y_LW_refuses.2.1 1026 = .ok (.iload_n 3, 1) := by decide +kernel
theorem d_LW_refuses_1027 : decode Y_LW_refuses.2.1 1027 = .ok (.iconst (4), 1) := by decide +kernel
theorem d_LW_refuses_1028 : decode Y_LW_refuses.2.1 1028 = .ok (.if_icmp .lt (16), 3) := by decide +kernel
theorem d_LW_refuses_1031 : decode Y_LW_refuses.2.1 1031 = .ok (.aload_n 0, 1) := by decide +kernel
theorem d_LW_refuses_1032 : decode Y_LW_refuses.2.1 1032 = .ok (.iconst (0), 1) := by decide +kernel
theorem d_LW_refuses_1033 : decode Y_LW_refuses.2.1 1033 = .ok (.iconst (0), 1) := by decide +kernel
theorem d_LW_refuses_1034 : decode Y_LW_refuses.2.1 1034 = .ok (.iconst (0), 1) := by decide +kernel
theorem d_LW_refuses_1035 : decode Y_LW_refuses.2.1 1035 = .ok (.iconst (0), 1) := by decide +kernel
theorem d_LW_refuses_1036 : decode Y_LW_refuses.2.1 1036 = .ok (.invokestatic 164, 3) := by decide +kernel
theorem d_LW_refuses_1039 : decode Y_LW_refuses.2.1 1039 = .ok (.ldc 18, 2) := by decide +kernel
theorem d_LW_refuses_1041 : decode Y_LW_refuses.2.1 1041 = .ok (.if_icmp .ne (47), 3) := by decide +kernel
theorem d_LW_refuses_1044 : decode Y_LW_refuses.2.1 1044 = .ok (.iload 4, 2) := by decide +kernel
theorem d_LW_refuses_1046 : decode Y_LW_refuses.2.1 1046 = .ok (.iconst (3), 1) := by decide +kernel
theorem d_LW_refuses_1047 : decode Y_LW_refuses.2.1 1047 = .ok (.if_icmp .lt (14), 3) := by decide +kernel
theorem d_LW_refuses_1050 : decode Y_LW_refuses.2.1 1050 = .ok (.aload_n 0, 1) := by decide +kernel
theorem d_LW_refuses_1051 : decode Y_LW_refuses.2.1 1051 = .ok (.iconst (1), 1) := by decide +kernel
theorem d_LW_refuses_1052 : decode Y_LW_refuses.2.1 1052 = .ok (.iconst (0), 1) := by decide +kernel
theorem d_LW_refuses_1053 : decode Y_LW_refuses.2.1 1053 = .ok (.invokestatic 167, 3) := by decide +kernel
theorem d_LW_refuses_1056 : decode Y_LW_refuses.2.1 1056 = .ok (.ldc 18, 2) := by decide +kernel
theorem d_LW_refuses_1058 : decode Y_LW_refuses.2.1 1058 = .ok (.if_icmp .ne (30), 3) := by decide +kernel
theorem d_LW_refuses_1061 : decode Y_LW_refuses.2.1 1061 = .ok (.iload 4, 2) := by decide +kernel
theorem d_LW_refuses_1063 : decode Y_LW_refuses.2.1 1063 = .ok (.ifCond .eq (21), 3) := by decide +kernel
theorem d_LW_refuses_1066 : decode Y_LW_refuses.2.1 1066 = .ok (.aload_n 0, 1) := by decide +kernel
theorem d_LW_refuses_1067 : decode Y_LW_refuses.2.1 1067 = .ok (.iconst (5), 1) := by decide +kernel
theorem d_LW_refuses_1068 : decode Y_LW_refuses.2.1 1068 = .ok (.iconst (0), 1) := by decide +kernel
theorem d_LW_refuses_1069 : decode Y_LW_refuses.2.1 1069 = .ok (.iconst (2), 1) := by decide +kernel
theorem d_LW_refuses_1070 : decode Y_LW_refuses.2.1 1070 = .ok (.iload_n 1, 1) := by decide +kernel
theorem d_LW_refuses_1071 : decode Y_LW_refuses.2.1 1071 = .ok (.bipush (9), 2) := by decide +kernel
theorem d_LW_refuses_1073 : decode Y_LW_refuses.2.1 1073 = .ok (.irem, 1) := by decide +kernel
theorem d_LW_refuses_1074 : decode Y_LW_refuses.2.1 1074 = .ok (.iadd, 1) := by decide +kernel
theorem d_LW_refuses_1075 : decode Y_LW_refuses.2.1 1075 = .ok (.iconst (0), 1) := by decide +kernel
theorem d_LW_refuses_1076 : decode Y_LW_refuses.2.1 1076 = .ok (.invokestatic 156, 3) := by decide +kernel
theorem d_LW_refuses_1079 : decode Y_LW_refuses.2.1 1079 = .ok (.ldc 15, 2) := by decide +kernel
theorem d_LW_refuses_1081 : decode Y_LW_refuses.2.1 1081 = .ok (.if_icmp .ne (7), 3) := by decide +kernel
theorem d_LW_refuses_1084 : decode Y_LW_refuses.2.1 1084 = .ok (.iconst (1), 1) := by decide +kernel
theorem d_LW_refuses_1085 : decode Y_LW_refuses.2.1 1085 = .ok (.goto (4), 3) := by decide +kernel
theorem d_LW_refuses_1088 : decode Y_LW_refuses.2.1 1088 = .ok (.iconst (0), 1) := by decide +kernel
theorem d_LW_refuses_1089 : decode Y_LW_refuses.2.1 1089 = .ok (.ireturn, 1) := by decide +kernel
def f_LW_refuses (w : zW) (D : zD) (r0 : Nat) (x1 : Int32) : Option (Int32 × zD) := zjp (fun (x2 : Int32) (x3 : Int32) (x4 : Int32) (x5 : Int32) (s0 : Int32) (D1 : zD) => zjp (fun (x2 : Int32) (x3 : Int32) (x4 : Int32) (x5 : Int32) (x6 : Int32) (s0 : Int32) (D3 : zD) => zjp (fun (x2 : Int32) (x3 : Int32) (x4 : Int32) (x5 : Int32) (x6 : Int32) (x7 : Int32) (s0 : Int32) (D5 : zD) => zjp (fun (x2 : Int32) (x3 : Int32) (x4 : Int32) (x5 : Int32) (x6 : Int32) (x7 : Int32) (x8 : Int32) (s0 : Int32) (D7 : zD) => zjp (fun (x2 : Int32) (x3 : Int32) (x4 : Int32) (x5 : Int32) (x6 : Int32) (x7 : Int32) (x8 : Int32) (x9 : Int32) (s0 : Int32) (D9 : zD) => zjp (fun (x2 : Int32) (x3 : Int32) (x4 : Int32) (x5 : Int32) (x6 : Int32) (x7 : Int32) (x8 : Int32) (x9 : Int32) (x10 : Int32) (s0 : Nat) (s1 : Int32) (s2 : Int32) (D11 : zD) => zjp (fun (x2 : Int32) (x3 : Int32) (x4 : Int32) (s0 : Int32) (D13 : zD) => zjp (fun (s0 : Int32) (D15 : zD) => zchk (s0 = 0 ∨ s0 = 1) (some (s0, D15))) (fun j1089 => zjp (fun (D17 : zD) => j1089 (0 : Int32) D17) (fun j1088 => (if s0 = 0 then j1088 D13 else zjp (fun (x3 : Int32) (x4 : Int32) (D19 : zD) => zjp (fun (x4 : Int32) (D21 : zD) => zjp (fun (x4 : Int32) (D23 : zD) => zjp (fun (D25 : zD) => j1089 (1 : Int32) D25) (fun j1084 => (if x4 = 0 then j1084 D23 else zci (f_LW_call w D23 r0 (5 : Int32) (0 : Int32) ((2 : Int32) + (zirem x1 (9 : Int32))) (0 : Int32)) (fun v27 D28 => (if v27 = (-9999002 : Int32) then j1084 D28 else j1088 D28))))) (fun j1061 => (if x4 < (3 : Int32) then j1061 x4 D21 else zci (f_LW_walls w D21 r0 (1 : Int32) (0 : Int32)) (fun v30 D31 => (if v30 = (-9999003 : Int32) then j1061 x4 D31 else j1088 D31))))) (fun j1044 => (if x3 < (4 : Int32) then j1044 x4 D19 else zci (f_LW_hearers w D19 r0 (0 : Int32) (0 : Int32) (0 : Int32) (0 : Int32)) (fun v33 D34 => (if v33 = (-9999003 : Int32) then j1044 x4 D34 else j1088 D34))))) (fun j1026 => (if x2 < (4 : Int32) then j1026 x3 x4 D13 else zci (f_LW_sirens w D13 r0 (0 : Int32) (0 : Int32) (1 : Int32) (0 : Int32) (1 : Int32)) (fun v36 D37 => (if v36 = (-9999003 : Int32) then j1026 x3 x4 D37 else j1088 D37)))))))) (fun j1000 => zjp (fun (x2 : Int32) (x3 : Int32) (x4 : Int32) (D39 : zD) => j1000 x2 x3 x4 (0 : Int32) D39) (fun j999 => zci (f_LW_call w D11 s0 s1 s2 (0 : Int32) (0 : Int32)) (fun v41 D42 => (if v41 = (-9999002 : Int32) then zci (f_LW_call w D42 r0 (2 : Int32) ((10 : Int32) + (zirem x1 (50 : Int32))) (0 : Int32) (0 : Int32)) (fun v44 D45 => (if v44 = (-9999002 : Int32) then zci (f_LW_call w D45 r0 (3 : Int32) x6 (99 : Int32) (0 : Int32)) (fun v47 D48 => (if v47 = (-9999001 : Int32) then zci (f_LW_call w D48 r0 (3 : Int32) (0 : Int32) ((10 : Int32) + (zirem x1 (9 : Int32))) (0 : Int32)) (fun v50 D51 => (if v50 = (-9999002 : Int32) then zci (f_LW_call w D51 r0 (4 : Int32) x7 (99 : Int32) (0 : Int32)) (fun v53 D54 => (if v53 = (-9999001 : Int32) then zci (f_LW_call w D54 r0 (4 : Int32) (0 : Int32) ((6 : Int32) + (zirem x1 (9 : Int32))) (0 : Int32)) (fun v56 D57 => (if v56 = (-9999002 : Int32) then zjp (fun (x2 : Int32) (x3 : Int32) (x4 : Int32) (x5 : Int32) (x6 : Int32) (x7 : Int32) (x8 : Int32) (x9 : Int32) (x10 : Int32) (s0 : Nat) (s1 : Int32) (s2 : Int32) (D59 : zD) => zci (f_LW_call w D59 s0 s1 s2 (9 : Int32) (0 : Int32)) (fun v61 D62 => (if v61 = (-9999001 : Int32) then zjp (fun (x2 : Int32) (x3 : Int32) (x4 : Int32) (x5 : Int32) (x6 : Int32) (x7 : Int32) (x8 : Int32) (x9 : Int32) (x10 : Int32) (s0 : Nat) (s1 : Int32) (s2 : Int32) (D64 : zD) => zci (f_LW_call w D64 s0 s1 s2 (99 : Int32) (0 : Int32)) (fun v66 D67 => (if v66 = (-9999001 : Int32) then zjp (fun (x2 : Int32) (x3 : Int32) (x4 : Int32) (x6 : Int32) (x7 : Int32) (x8 : Int32) (x9 : Int32) (x10 : Int32) (D69 : zD) => zci (f_LW_call w D69 r0 (7 : Int32) x7 (0 : Int32) (9 : Int32)) (fun v71 D72 => (if v71 = (-9999001 : Int32) then zci (f_LW_call w D72 r0 (7 : Int32) (0 : Int32) x6 (9 : Int32)) (fun v74 D75 => (if v74 = (-9999001 : Int32) then zci (f_LW_call w D75 r0 (7 : Int32) (0 : Int32) (0 : Int32) ((6 : Int32) + (zirem x1 (9 : Int32)))) (fun v77 D78 => (if v77 = (-9999002 : Int32) then zci (f_LW_sirens w D78 r0 x8 (0 : Int32) (1 : Int32) (1 : Int32) (1 : Int32)) (fun v80 D81 => (if v80 = (-9999002 : Int32) then zci (f_LW_sirens w D81 r0 (0 : Int32) x8 (1 : Int32) (1 : Int32) (1 : Int32)) (fun v83 D84 => (if v83 = (-9999002 : Int32) then zjp (fun (x2 : Int32) (x3 : Int32) (x4 : Int32) (x6 : Int32) (x7 : Int32) (x9 : Int32) (x10 : Int32) (s0 : Nat) (s1 : Int32) (s2 : Int32) (s3 : Int32) (D86 : zD) => zci (f_LW_sirens w D86 s0 s1 s2 s3 (1 : Int32) (1 : Int32)) (fun v88 D89 => (if v88 = (-9999002 : Int32) then zjp (fun (x2 : Int32) (x3 : Int32) (x4 : Int32) (x6 : Int32) (x7 : Int32) (x9 : Int32) (x10 : Int32) (s0 : Nat) (s1 : Int32) (s2 : Int32) (s3 : Int32) (s4 : Int32) (D91 : zD) => zci (f_LW_sirens w D91 s0 s1 s2 s3 s4 (1 : Int32)) (fun v93 D94 => (if v93 = (-9999002 : Int32) then zjp (fun (x2 : Int32) (x3 : Int32) (x4 : Int32) (x6 : Int32) (x7 : Int32) (x9 : Int32) (x10 : Int32) (s0 : Nat) (s1 : Int32) (s2 : Int32) (s3 : Int32) (s4 : Int32) (s5 : Int32) (D96 : zD) => zci (f_LW_sirens w D96 s0 s1 s2 s3 s4 s5) (fun v98 D99 => (if v98 = (-9999002 : Int32) then zci (f_LW_hearers w D99 r0 x9 (0 : Int32) (0 : Int32) (0 : Int32)) (fun v101 D102 => (if v101 = (-9999002 : Int32) then zci (f_LW_hearers w D102 r0 (0 : Int32) x9 (0 : Int32) (0 : Int32)) (fun v104 D105 => (if v104 = (-9999002 : Int32) then zci (f_LW_hearers w D105 r0 (0 : Int32) (0 : Int32) x10 (0 : Int32)) (fun v107 D108 => (if v107 = (-9999002 : Int32) then zci (f_LW_hearers w D108 r0 (0 : Int32) (0 : Int32) (0 : Int32) x10) (fun v110 D111 => (if v110 = (-9999002 : Int32) then zjp (fun (x2 : Int32) (x3 : Int32) (x4 : Int32) (x6 : Int32) (x7 : Int32) (x9 : Int32) (x10 : Int32) (s0 : Nat) (s1 : Int32) (D113 : zD) => zci (f_LW_walls w D113 s0 s1 x9) (fun v115 D116 => (if v115 = (-9999002 : Int32) then zci (f_LW_turned w D116 r0 x6 (1 : Int32)) (fun v118 D119 => (if v118 = (-9999001 : Int32) then zci (f_LW_call w D119 r0 (8 : Int32) x7 (9 : Int32) (9 : Int32)) (fun v121 D122 => (if v121 = (-9999001 : Int32) then zci (f_LW_call w D122 r0 (8 : Int32) (0 : Int32) x10 (0 : Int32)) (fun v124 D125 => (if v124 = (-9999002 : Int32) then zci (f_LW_call w D125 r0 (8 : Int32) (0 : Int32) (0 : Int32) x10) (fun v127 D128 => (if v127 = (-9999002 : Int32) then zjp (fun (x2 : Int32) (x3 : Int32) (x4 : Int32) (x6 : Int32) (x7 : Int32) (s0 : Nat) (s1 : Int32) (s2 : Int32) (D130 : zD) => zci (f_LW_call w D130 s0 s1 s2 (0 : Int32) (0 : Int32)) (fun v132 D133 => (if v132 = (-9999002 : Int32) then zjp (fun (x2 : Int32) (x3 : Int32) (x4 : Int32) (x6 : Int32) (x7 : Int32) (s0 : Nat) (s1 : Int32) (s2 : Int32) (s3 : Int32) (D135 : zD) => zci (f_LW_call w D135 s0 s1 s2 s3 (0 : Int32)) (fun v137 D138 => (if v137 = (-9999002 : Int32) then zjp (fun (x2 : Int32) (x3 : Int32) (x4 : Int32) (x6 : Int32) (x7 : Int32) (s0 : Nat) (s1 : Int32) (s2 : Int32) (s3 : Int32) (D140 : zD) => zci (f_LW_call w D140 s0 s1 s2 s3 (0 : Int32)) (fun v142 D143 => (if v142 = (-9999002 : Int32) then zci (f_LW_call w D143 r0 (10 : Int32) ((2 : Int32) + (zirem x1 (9 : Int32))) (5 : Int32) (0 : Int32)) (fun v145 D146 => (if v145 = (-9999002 : Int32) then zci (f_LW_call w D146 r0 (12 : Int32) x6 (9999 : Int32) (9 : Int32)) (fun v148 D149 => (if v148 = (-9999001 : Int32) then zjp (fun (x2 : Int32) (x3 : Int32) (x4 : Int32) (x6 : Int32) (x7 : Int32) (s0 : Nat) (s1 : Int32) (s2 : Int32) (s3 : Int32) (D151 : zD) => zci (f_LW_call w D151 s0 s1 s2 s3 (0 : Int32)) (fun v153 D154 => (if v153 = (-9999002 : Int32) then zci (f_LW_call w D154 r0 (12 : Int32) (0 : Int32) (0 : Int32) ((2 : Int32) + (zirem x1 (9 : Int32)))) (fun v156 D157 => (if v156 = (-9999002 : Int32) then zci (f_LW_call w D157 r0 (13 : Int32) x7 (0 : Int32) (0 : Int32)) (fun v159 D160 => (if v159 = (-9999001 : Int32) then zci (f_LW_call w D160 r0 (13 : Int32) (0 : Int32) x6 (0 : Int32)) (fun v162 D163 => (if v162 = (-9999001 : Int32) then zjp (fun (x2 : Int32) (x3 : Int32) (x4 : Int32) (s0 : Nat) (s1 : Int32) (s2 : Int32) (D165 : zD) => zci (f_LW_call w D165 s0 s1 s2 (0 : Int32) (0 : Int32)) (fun v167 D168 => (if v167 = (-9999002 : Int32) then zci (f_LW_call w D168 r0 (15 : Int32) ((2 : Int32) + (zirem x1 (50 : Int32))) (0 : Int32) (0 : Int32)) (fun v170 D171 => (if v170 = (-9999001 : Int32) then zci (f_LW_call w D171 r0 (16 : Int32) ((-1 : Int32) - (zirem x1 (9 : Int32))) (0 : Int32) (0 : Int32)) (fun v173 D174 => (if v173 = (-9999001 : Int32) then zci (f_LW_doScript w D174 r0 (0 : Int32) (0 : Int64)) (fun v176 D177 => (if v176 = (-9999002 : Int32) then zci (f_LW_doScript w D177 r0 (1 : Int32) ((100000 : Int64) + x1.toInt64)) (fun v179 D180 => (if v179 = (-9999002 : Int32) then zci (f_LW_doSimulate w D180 r0 x1.toInt64 ((61 : Int32) + (zirem x1 (9 : Int32)))) (fun v182 D183 => (if v182 = (-9999002 : Int32) then j1000 x2 x3 x4 (1 : Int32) D183 else j999 x2 x3 x4 D183)) else j999 x2 x3 x4 D180)) else j999 x2 x3 x4 D177)) else j999 x2 x3 x4 D174)) else j999 x2 x3 x4 D171)) else j999 x2 x3 x4 D168))) (fun j902 => (if (zirem x1 (2 : Int32)) = 0 then j902 x2 x3 x4 r0 (14 : Int32) (0 : Int32) D163 else j902 x2 x3 x4 r0 (14 : Int32) ((100 : Int32) + (zirem x1 (9 : Int32))) D163)) else j999 x2 x3 x4 D163)) else j999 x2 x3 x4 D160)) else j999 x2 x3 x4 D157)) else j999 x2 x3 x4 D154))) (fun j824 => (if (zirem x1 (2 : Int32)) = 0 then j824 x2 x3 x4 x6 x7 r0 (12 : Int32) (0 : Int32) (-1 : Int32) D149 else j824 x2 x3 x4 x6 x7 r0 (12 : Int32) (0 : Int32) ((1001 : Int32) + (zirem x1 (9 : Int32))) D149)) else j999 x2 x3 x4 D149)) else j999 x2 x3 x4 D146)) else j999 x2 x3 x4 D143))) (fun j756 => (if (zirem x1 (2 : Int32)) = 0 then j756 x2 x3 x4 x6 x7 r0 (10 : Int32) (1 : Int32) (0 : Int32) D138 else j756 x2 x3 x4 x6 x7 r0 (10 : Int32) (1 : Int32) ((100 : Int32) + (zirem x1 (9 : Int32))) D138)) else j999 x2 x3 x4 D138))) (fun j726 => (if (zirem x1 (2 : Int32)) = 0 then j726 x2 x3 x4 x6 x7 r0 (10 : Int32) (0 : Int32) (0 : Int32) D133 else j726 x2 x3 x4 x6 x7 r0 (10 : Int32) (0 : Int32) ((10 : Int32) + (zirem x1 (9 : Int32))) D133)) else j999 x2 x3 x4 D133))) (fun j695 => (if (zirem x1 (2 : Int32)) = 0 then j695 x2 x3 x4 x6 x7 r0 (9 : Int32) (0 : Int32) D128 else j695 x2 x3 x4 x6 x7 r0 (9 : Int32) ((100 : Int32) + (zirem x1 (9 : Int32))) D128)) else j999 x2 x3 x4 D128)) else j999 x2 x3 x4 D125)) else j999 x2 x3 x4 D122)) else j999 x2 x3 x4 D119)) else j999 x2 x3 x4 D116))) (fun j606 => (if (zirem x1 (2 : Int32)) = 0 then j606 x2 x3 x4 x6 x7 x9 x10 r0 (1 : Int32) D111 else j606 x2 x3 x4 x6 x7 x9 x10 r0 (0 : Int32) D111)) else j999 x2 x3 x4 D111)) else j999 x2 x3 x4 D108)) else j999 x2 x3 x4 D105)) else j999 x2 x3 x4 D102)) else j999 x2 x3 x4 D99))) (fun j530 => (if (zirem x1 (2 : Int32)) = 0 then j530 x2 x3 x4 x6 x7 x9 x10 r0 (0 : Int32) (0 : Int32) (1 : Int32) (1 : Int32) (0 : Int32) D94 else j530 x2 x3 x4 x6 x7 x9 x10 r0 (0 : Int32) (0 : Int32) (1 : Int32) (1 : Int32) ((21 : Int32) + (zirem x1 (9 : Int32))) D94)) else j999 x2 x3 x4 D94))) (fun j499 => (if (zirem x1 (2 : Int32)) = 0 then j499 x2 x3 x4 x6 x7 x9 x10 r0 (0 : Int32) (0 : Int32) (1 : Int32) (-4 : Int32) D89 else j499 x2 x3 x4 x6 x7 x9 x10 r0 (0 : Int32) (0 : Int32) (1 : Int32) ((4 : Int32) + (zirem x1 (9 : Int32))) D89)) else j999 x2 x3 x4 D89))) (fun j468 => (if (zirem x1 (2 : Int32)) = 0 then j468 x2 x3 x4 x6 x7 x9 x10 r0 (0 : Int32) (0 : Int32) (0 : Int32) D84 else j468 x2 x3 x4 x6 x7 x9 x10 r0 (0 : Int32) (0 : Int32) ((6 : Int32) + (zirem x1 (9 : Int32))) D84)) else j999 x2 x3 x4 D84)) else j999 x2 x3 x4 D81)) else j999 x2 x3 x4 D78)) else j999 x2 x3 x4 D75)) else j999 x2 x3 x4 D72))) (fun j366 => (if x5 = 0 then j366 x2 x3 x4 x6 x7 x8 x9 x10 D67 else zci (f_LW_call w D67 r0 (6 : Int32) (0 : Int32) ((6 : Int32) + (zirem x1 (9 : Int32))) (0 : Int32)) (fun v185 D186 => (if v185 = (-9999002 : Int32) then j366 x2 x3 x4 x6 x7 x8 x9 x10 D186 else j999 x2 x3 x4 D186)))) else j999 x2 x3 x4 D67))) (fun j330 => (if (zirem x1 (2 : Int32)) = 0 then j330 x2 x3 x4 x5 x6 x7 x8 x9 x10 r0 (6 : Int32) (-1 : Int32) D62 else j330 x2 x3 x4 x5 x6 x7 x8 x9 x10 r0 (6 : Int32) (x5 + (zirem x1 (9 : Int32))) D62)) else j999 x2 x3 x4 D62))) (fun j299 => (if (zirem x1 (2 : Int32)) = 0 then j299 x2 x3 x4 x5 x6 x7 x8 x9 x10 r0 (5 : Int32) (-1 : Int32) D57 else j299 x2 x3 x4 x5 x6 x7 x8 x9 x10 r0 (5 : Int32) (x4 + (zirem x1 (9 : Int32))) D57)) else j999 x2 x3 x4 D57)) else j999 x2 x3 x4 D54)) else j999 x2 x3 x4 D51)) else j999 x2 x3 x4 D48)) else j999 x2 x3 x4 D45)) else j999 x2 x3 x4 D42))))) (fun j183 => (if (zirem x1 (2 : Int32)) = 0 then j183 x2 x3 x4 x5 x6 x7 x8 x9 s0 r0 (0 : Int32) ((-1 : Int32) - (zirem x1 (9 : Int32))) D9 else j183 x2 x3 x4 x5 x6 x7 x8 x9 s0 r0 (0 : Int32) ((256 : Int32) + (zirem x1 (9 : Int32))) D9))) (fun j156 => (if (zirem x1 (2 : Int32)) = 0 then j156 x2 x3 x4 x5 x6 x7 x8 s0 ((-3 : Int32) - (zirem x1 (9 : Int32))) D7 else j156 x2 x3 x4 x5 x6 x7 x8 s0 ((3 : Int32) + (zirem x1 (9 : Int32))) D7))) (fun j132 => (if (zirem x1 (2 : Int32)) = 0 then j132 x2 x3 x4 x5 x6 x7 s0 ((-41 : Int32) - (zirem x1 (9 : Int32))) D5 else j132 x2 x3 x4 x5 x6 x7 s0 ((41 : Int32) + (zirem x1 (9 : Int32))) D5))) (fun j107 => (if (zirem x1 (2 : Int32)) = 0 then j107 x2 x3 x4 x5 x6 s0 ((-31 : Int32) - (zirem x1 (9 : Int32))) D3 else j107 x2 x3 x4 x5 x6 s0 ((31 : Int32) + (zirem x1 (9 : Int32))) D3))) (fun j82 => (if (zirem x1 (2 : Int32)) = 0 then j82 x2 x3 x4 x5 s0 ((-1 : Int32) - (zirem x1 (99 : Int32))) D1 else j82 x2 x3 x4 x5 s0 (x3 + (zirem x1 (99 : Int32))) D1))) (fun j59 => zci (f_LW_call w D r0 (2 : Int32) (0 : Int32) (0 : Int32) (0 : Int32)) (fun v188 D189 => zci (f_LW_call w D189 r0 (2 : Int32) (1 : Int32) (0 : Int32) (0 : Int32)) (fun v191 D192 => zci (f_LW_call w D192 r0 (2 : Int32) (2 : Int32) (0 : Int32) (0 : Int32)) (fun v194 D195 => zci (f_LW_call w D195 r0 (2 : Int32) (4 : Int32) (0 : Int32) (0 : Int32)) (fun v197 D198 => (if (zirem x1 (2 : Int32)) = 0 then j59 v188 v191 v194 v197 ((-1 : Int32) - (zirem x1 (99 : Int32))) D198 else j59 v188 v191 v194 v197 (v188 + (zirem x1 (99 : Int32))) D198))))))
set_option maxHeartbeats 8000000 in
set_option maxRecDepth 100000 in
theorem c_LW_refuses (z : zT) (D : zD) (r0 : Nat) (x1 : Int32) : zM Y_LW_refuses 11 49 294 (zqY z.2) (f_LW_refuses z.2 D r0 x1) [.ref r0, .int x1] z D := by
  refine zM_of (plainFor_of_name (by decide +kernel)) rfl (Nat.le_of_ble_eq_true rfl) (fun _ _ _ _ h => nomatch h.1) (fun K => ?_)
  obtain ⟨n0, w⟩ := z
  show zGO K Y_LW_refuses 11 49 294 (zqY w) (f_LW_refuses w D r0 x1) 49 294 (n0, w) D 0 [(0, .ref r0), (1, .int x1)] []
  unfold f_LW_refuses
  refine z_jp (fun j59 : Int32 → Int32 → Int32 → Int32 → Int32 → zD → Option (Int32 × zD) => ∀ (x2 : Int32) (x3 : Int32) (x4 : Int32) (x5 : Int32) (s0 : Int32) (m2 : Nat) (D1 : zD), zGO K Y_LW_refuses 11 49 294 (zqY w) (j59 x2 x3 x4 x5 s0 D1) 45 270 (m2, w) D1 59 [(0, .ref r0), (1, .int x1), (2, .int x2), (3, .int x3), (4, .int x4), (5, .int x5)] [.int s0]) (fun x2 x3 x4 x5 s0 m2 D1 => ?_) (fun j59 h59 => ?_)
  · refine z_jp (fun j82 : Int32 → Int32 → Int32 → Int32 → Int32 → Int32 → zD → Option (Int32 × zD) => ∀ (x2 : Int32) (x3 : Int32) (x4 : Int32) (x5 : Int32) (x6 : Int32) (s0 : Int32) (m4 : Nat) (D3 : zD), zGO K Y_LW_refuses 11 49 294 (zqY w) (j82 x2 x3 x4 x5 x6 s0 D3) 45 270 (m4, w) D3 82 [(0, .ref r0), (1, .int x1), (2, .int x2), (3, .int x3), (4, .int x4), (5, .int x5), (6, .int x6)] [.int s0]) (fun x2 x3 x4 x5 x6 s0 m4 D3 => ?_) (fun j82 h82 => ?_)
    · refine z_jp (fun j107 : Int32 → Int32 → Int32 → Int32 → Int32 → Int32 → Int32 → zD → Option (Int32 × zD) => ∀ (x2 : Int32) (x3 : Int32) (x4 : Int32) (x5 : Int32) (x6 : Int32) (x7 : Int32) (s0 : Int32) (m6 : Nat) (D5 : zD), zGO K Y_LW_refuses 11 49 294 (zqY w) (j107 x2 x3 x4 x5 x6 x7 s0 D5) 45 270 (m6, w) D5 107 [(0, .ref r0), (1, .int x1), (2, .int x2), (3, .int x3), (4, .int x4), (5, .int x5), (6, .int x6), (7, .int x7)] [.int s0]) (fun x2 x3 x4 x5 x6 x7 s0 m6 D5 => ?_) (fun j107 h107 => ?_)
      · refine z_jp (fun j132 : Int32 → Int32 → Int32 → Int32 → Int32 → Int32 → Int32 → Int32 → zD → Option (Int32 × zD) => ∀ (x2 : Int32) (x3 : Int32) (x4 : Int32) (x5 : Int32) (x6 : Int32) (x7 : Int32) (x8 : Int32) (s0 : Int32) (m8 : Nat) (D7 : zD), zGO K Y_LW_refuses 11 49 294 (zqY w) (j132 x2 x3 x4 x5 x6 x7 x8 s0 D7) 45 270 (m8, w) D7 132 [(0, .ref r0), (1, .int x1), (2, .int x2), (3, .int x3), (4, .int x4), (5, .int x5), (6, .int x6), (7, .int x7), (8, .int x8)] [.int s0]) (fun x2 x3 x4 x5 x6 x7 x8 s0 m8 D7 => ?_) (fun j132 h132 => ?_)
        · refine z_jp (fun j156 : Int32 → Int32 → Int32 → Int32 → Int32 → Int32 → Int32 → Int32 → Int32 → zD → Option (Int32 × zD) => ∀ (x2 : Int32) (x3 : Int32) (x4 : Int32) (x5 : Int32) (x6 : Int32) (x7 : Int32) (x8 : Int32) (x9 : Int32) (s0 : Int32) (m10 : Nat) (D9 : zD), zGO K Y_LW_refuses 11 49 294 (zqY w) (j156 x2 x3 x4 x5 x6 x7 x8 x9 s0 D9) 45 270 (m10, w) D9 156 [(0, .ref r0), (1, .int x1), (2, .int x2), (3, .int x3), (4, .int x4), (5, .int x5), (6, .int x6), (7, .int x7), (8, .int x8), (9, .int x9)] [.int s0]) (fun x2 x3 x4 x5 x6 x7 x8 x9 s0 m10 D9 => ?_) (fun j156 h156 => ?_)
          · refine z_jp (fun j183 : Int32 → Int32 → Int32 → Int32 → Int32 → Int32 → Int32 → Int32 → Int32 → Nat → Int32 → Int32 → zD → Option (Int32 × zD) => ∀ (x2 : Int32) (x3 : Int32) (x4 : Int32) (x5 : Int32) (x6 : Int32) (x7 : Int32) (x8 : Int32) (x9 : Int32) (x10 : Int32) (s0 : Nat) (s1 : Int32) (s2 : Int32) (m12 : Nat) (D11 : zD), zGO K Y_LW_refuses 11 49 294 (zqY w) (j183 x2 x3 x4 x5 x6 x7 x8 x9 x10 s0 s1 s2 D11) 45 270 (m12, w) D11 183 [(0, .ref r0), (1, .int x1), (2, .int x2), (3, .int x3), (4, .int x4), (5, .int x5), (6, .int x6), (7, .int x7), (8, .int x8), (9, .int x9), (10, .int x10)] [.int s2, .int s1, .ref s0]) (fun x2 x3 x4 x5 x6 x7 x8 x9 x10 s0 s1 s2 m12 D11 => ?_) (fun j183 h183 => ?_)
            · refine z_jp (fun j1000 : Int32 → Int32 → Int32 → Int32 → zD → Option (Int32 × zD) => ∀ (x2 : Int32) (x3 : Int32) (x4 : Int32) (s0 : Int32) (m14 : Nat) (D13 : zD), zGO K Y_LW_refuses 11 49 294 (zqY w) (j1000 x2 x3 x4 s0 D13) 4 24 (m14, w) D13 1000 [(0, .ref r0), (1, .int x1), (2, .int x2), (3, .int x3), (4, .int x4)] [.int s0]) (fun x2 x3 x4 s0 m14 D13 => ?_) (fun j1000 h1000 => ?_)
              · refine z_jp (fun j1089 : Int32 → zD → Option (Int32 × zD) => ∀ (s0 : Int32) (m16 : Nat) (D15 : zD), zGO K Y_LW_refuses 11 49 294 (zqY w) (j1089 s0 D15) 0 0 (m16, w) D15 1089 [] [.int s0]) (fun s0 m16 D15 => ?_) (fun j1089 h1089 => ?_)
                · exact z_yretZ (pc := 1089) rfl d_LW_refuses_1089 rfl
                · refine z_jp (fun j1088 : zD → Option (Int32 × zD) => ∀ (m18 : Nat) (D17 : zD), zGO K Y_LW_refuses 11 49 294 (zqY w) (j1088 D17) 0 0 (m18, w) D17 1088 [] []) (fun m18 D17 => ?_) (fun j1088 h1088 => ?_)
                  · refine z_iconst (pc := 1088) d_LW_refuses_1088 ki_0 ?_
                    refine z_kc (by omega) (by omega) (z_sub [] rfl (h1089 (0 : Int32) m18 D17))
                  · refine z_istore (pc := 1000) d_LW_refuses_1000 (by decide) (lv' := [(11, .int s0), (0, .ref r0), (1, .int x1), (2, .int x2), (3, .int x3), (4, .int x4)]) rfl ?_
                    refine z_iload (pc := 1002) d_LW_refuses_1002 0 rfl ?_
                    refine z_if_eq (pc := 1004) (tgt := 1088) d_LW_refuses_1004 (by decide) ?_ ?_
                    · refine z_kc (by omega) (by omega) (z_sub [] rfl (h1088 m14 D13))
                    · refine z_jp (fun j1026 : Int32 → Int32 → zD → Option (Int32 × zD) => ∀ (x3 : Int32) (x4 : Int32) (m20 : Nat) (D19 : zD), zGO K Y_LW_refuses 11 49 294 (zqY w) (j1026 x3 x4 D19) 3 18 (m20, w) D19 1026 [(0, .ref r0), (1, .int x1), (3, .int x3), (4, .int x4)] []) (fun x3 x4 m20 D19 => ?_) (fun j1026 h1026 => ?_)
                      · refine z_jp (fun j1044 : Int32 → zD → Option (Int32 × zD) => ∀ (x4 : Int32) (m22 : Nat) (D21 : zD), zGO K Y_LW_refuses 11 49 294 (zqY w) (j1044 x4 D21) 2 12 (m22, w) D21 1044 [(0, .ref r0), (1, .int x1), (4, .int x4)] []) (fun x4 m22 D21 => ?_) (fun j1044 h1044 => ?_)
                        · refine z_jp (fun j1061 : Int32 → zD → Option (Int32 × zD) => ∀ (x4 : Int32) (m24 : Nat) (D23 : zD), zGO K Y_LW_refuses 11 49 294 (zqY w) (j1061 x4 D23) 1 6 (m24, w) D23 1061 [(0, .ref r0), (1, .int x1), (4, .int x4)] []) (fun x4 m24 D23 => ?_) (fun j1061 h1061 => ?_)
                          · refine z_jp (fun j1084 : zD → Option (Int32 × zD) => ∀ (m26 : Nat) (D25 : zD), zGO K Y_LW_refuses 11 49 294 (zqY w) (j1084 D25) 0 0 (m26, w) D25 1084 [] []) (fun m26 D25 => ?_) (fun j1084 h1084 => ?_)
                            · refine z_iconst (pc := 1084) d_LW_refuses_1084 ki_1 ?_
                              refine z_goto (pc := 1085) (tgt := 1089) d_LW_refuses_1085 (by decide) ?_
                              refine z_kc (by omega) (by omega) (z_sub [] rfl (h1089 (1 : Int32) m26 D25))
                            · refine z_iload (pc := 1061) d_LW_refuses_1061 2 rfl ?_
                              refine z_if_eq (pc := 1063) (tgt := 1084) d_LW_refuses_1063 (by decide) ?_ ?_
                              · refine z_kc (by omega) (by omega) (z_sub [] rfl (h1084 m24 D23))
                              · refine z_aload_n (pc := 1066) d_LW_refuses_1066 rfl 0 rfl ?_
                                refine z_iconst (pc := 1067) d_LW_refuses_1067 ki_5 ?_
                                refine z_iconst (pc := 1068) d_LW_refuses_1068 ki_0 ?_
                                refine z_iconst (pc := 1069) d_LW_refuses_1069 ki_2 ?_
                                refine z_iload_n (pc := 1070) d_LW_refuses_1070 rfl 1 rfl ?_
                                refine z_bipush (pc := 1071) d_LW_refuses_1071 kb_9 ?_
                                refine z_iremK (pc := 1073) d_LW_refuses_1073 (by decide) ?_
                                refine z_iadd (pc := 1074) d_LW_refuses_1074 ?_
                                refine z_iconst (pc := 1075) d_LW_refuses_1075 ki_0 ?_
                                refine z_callYA (pc := 1076) (kc2 := 0) (ks2 := 0) [.ref r0, .int (5 : Int32), .int (0 : Int32), .int ((2 : Int32) + (zirem x1 (9 : Int32))), .int (0 : Int32)] lkS_LW_156 (c_LW_call (m24, w) D23 r0 (5 : Int32) (0 : Int32) ((2 : Int32) + (zirem x1 (9 : Int32))) (0 : Int32)) (by decide) (by omega) (by omega) rfl rfl (Nat.le_of_ble_eq_true rfl) d_LW_refuses_1076 (fun v27 D28 m29 => ?_)
                                refine z_ldc (pc := 1079) w_k_LW_15 d_LW_refuses_1079 ?_
                                refine z_icmp_ne (pc := 1081) (tgt := 1088) d_LW_refuses_1081 (by decide) ?_ ?_
                                · refine z_kc (by omega) (by omega) (z_sub [] rfl (h1084 m29 D28))
                                · refine z_kc (by omega) (by omega) (z_sub [] rfl (h1088 m29 D28))
                          · refine z_iload (pc := 1044) d_LW_refuses_1044 2 rfl ?_
                            refine z_iconst (pc := 1046) d_LW_refuses_1046 ki_3 ?_
                            refine z_icmp_lt (pc := 1047) (tgt := 1061) d_LW_refuses_1047 (by decide) ?_ ?_
                            · refine z_kc (by omega) (by omega) (z_sub [0, 1, 2] rfl (h1061 x4 m22 D21))
                            · refine z_aload_n (pc := 1050) d_LW_refuses_1050 rfl 0 rfl ?_
                              refine z_iconst (pc := 1051) d_LW_refuses_1051 ki_1 ?_
                              refine z_iconst (pc := 1052) d_LW_refuses_1052 ki_0 ?_
                              refine z_callYH (pc := 1053) (kc2 := 1) (ks2 := 6) [.ref r0, .int (1 : Int32), .int (0 : Int32)] lkH_LW_167 (c_LW_walls (m22, w) D21 r0 (1 : Int32) (0 : Int32)) (by decide) (by omega) (by omega) rfl rfl (Nat.le_of_ble_eq_true rfl) d_LW_refuses_1053 (fun v30 D31 m32 => ?_)
                              refine z_ldc (pc := 1056) w_k_LW_18 d_LW_refuses_1056 ?_
                              refine z_icmp_ne (pc := 1058) (tgt := 1088) d_LW_refuses_1058 (by decide) ?_ ?_
                              · refine z_kc (by omega) (by omega) (z_sub [0, 1, 2] rfl (h1061 x4 m32 D31))
                              · refine z_kc (by omega) (by omega) (z_sub [] rfl (h1088 m32 D31))
                        · refine z_iload_n (pc := 1026) d_LW_refuses_1026 rfl 2 rfl ?_
                          refine z_iconst (pc := 1027) d_LW_refuses_1027 ki_4 ?_
                          refine z_icmp_lt (pc := 1028) (tgt := 1044) d_LW_refuses_1028 (by decide) ?_ ?_
                          · refine z_kc (by omega) (by omega) (z_sub [0, 1, 3] rfl (h1044 x4 m20 D19))
                          · refine z_aload_n (pc := 1031) d_LW_refuses_1031 rfl 0 rfl ?_
                            refine z_iconst (pc := 1032) d_LW_refuses_1032 ki_0 ?_
                            refine z_iconst (pc := 1033) d_LW_refuses_1033 ki_0 ?_
                            refine z_iconst (pc := 1034) d_LW_refuses_1034 ki_0 ?_
                            refine z_iconst (pc := 1035) d_LW_refuses_1035 ki_0 ?_
                            refine z_callYH (pc := 1036) (kc2 := 2) (ks2 := 12) [.ref r0, .int (0 : Int32), .int (0 : Int32), .int (0 : Int32), .int (0 : Int32)] lkH_LW_164 (c_LW_hearers (m20, w) D19 r0 (0 : Int32) (0 : Int32) (0 : Int32) (0 : Int32)) (by decide) (by omega) (by omega) rfl rfl (Nat.le_of_ble_eq_true rfl) d_LW_refuses_1036 (fun v33 D34 m35 => ?_)
                            refine z_ldc (pc := 1039) w_k_LW_18 d_LW_refuses_1039 ?_
                            refine z_icmp_ne (pc := 1041) (tgt := 1088) d_LW_refuses_1041 (by decide) ?_ ?_
                            · refine z_kc (by omega) (by omega) (z_sub [0, 1, 3] rfl (h1044 x4 m35 D34))
                            · refine z_kc (by omega) (by omega) (z_sub [] rfl (h1088 m35 D34))
                      · refine z_iload_n (pc := 1007) d_LW_refuses_1007 rfl 3 rfl ?_
                        refine z_iconst (pc := 1008) d_LW_refuses_1008 ki_4 ?_
                        refine z_icmp_lt (pc := 1009) (tgt := 1026) d_LW_refuses_1009 (by decide) ?_ ?_
                        · refine z_kc (by omega) (by omega) (z_sub [1, 2, 4, 5] rfl (h1026 x3 x4 m14 D13))
                        · refine z_aload_n (pc := 1012) d_LW_refuses_1012 rfl 1 rfl ?_
                          refine z_iconst (pc := 1013) d_LW_refuses_1013 ki_0 ?_
                          refine z_iconst (pc := 1014) d_LW_refuses_1014 ki_0 ?_
                          refine z_iconst (pc := 1015) d_LW_refuses_1015 ki_1 ?_
                          refine z_iconst (pc := 1016) d_LW_refuses_1016 ki_0 ?_
                          refine z_iconst (pc := 1017) d_LW_refuses_1017 ki_1 ?_
                          refine z_callYH (pc := 1018) (kc2 := 3) (ks2 := 18) [.ref r0, .int (0 : Int32), .int (0 : Int32), .int (1 : Int32), .int (0 : Int32), .int (1 : Int32)] lkH_LW_160 (c_LW_sirens (m14, w) D13 r0 (0 : Int32) (0 : Int32) (1 : Int32) (0 : Int32) (1 : Int32)) (by decide) (by omega) (by omega) rfl rfl (Nat.le_of_ble_eq_true rfl) d_LW_refuses_1018 (fun v36 D37 m38 => ?_)
                          refine z_ldc (pc := 1021) w_k_LW_18 d_LW_refuses_1021 ?_
                          refine z_icmp_ne (pc := 1023) (tgt := 1088) d_LW_refuses_1023 (by decide) ?_ ?_
                          · refine z_kc (by omega) (by omega) (z_sub [1, 2, 4, 5] rfl (h1026 x3 x4 m38 D37))
                          · refine z_kc (by omega) (by omega) (z_sub [] rfl (h1088 m38 D37))
              · refine z_jp (fun j999 : Int32 → Int32 → Int32 → zD → Option (Int32 × zD) => ∀ (x2 : Int32) (x3 : Int32) (x4 : Int32) (m40 : Nat) (D39 : zD), zGO K Y_LW_refuses 11 49 294 (zqY w) (j999 x2 x3 x4 D39) 4 24 (m40, w) D39 999 [(0, .ref r0), (1, .int x1), (2, .int x2), (3, .int x3), (4, .int x4)] []) (fun x2 x3 x4 m40 D39 => ?_) (fun j999 h999 => ?_)
                · refine z_iconst (pc := 999) d_LW_refuses_999 ki_0 ?_
                  refine z_kc (by omega) (by omega) (z_sub [0, 1, 2, 3, 4] rfl (h1000 x2 x3 x4 (0 : Int32) m40 D39))
                · refine z_iconst (pc := 183) d_LW_refuses_183 ki_0 ?_
                  refine z_iconst (pc := 184) d_LW_refuses_184 ki_0 ?_
                  refine z_callYA (pc := 185) (kc2 := 44) (ks2 := 264) [.ref s0, .int s1, .int s2, .int (0 : Int32), .int (0 : Int32)] lkS_LW_156 (c_LW_call (m12, w) D11 s0 s1 s2 (0 : Int32) (0 : Int32)) (by decide) (by omega) (by omega) rfl rfl (Nat.le_of_ble_eq_true rfl) d_LW_refuses_185 (fun v41 D42 m43 => ?_)
                  refine z_ldc (pc := 188) w_k_LW_15 d_LW_refuses_188 ?_
                  refine z_icmp_ne (pc := 190) (tgt := 999) d_LW_refuses_190 (by decide) ?_ ?_
                  · refine z_aload_n (pc := 193) d_LW_refuses_193 rfl 0 rfl ?_
                    refine z_iconst (pc := 194) d_LW_refuses_194 ki_2 ?_
                    refine z_bipush (pc := 195) d_LW_refuses_195 kb_10 ?_
                    refine z_iload_n (pc := 197) d_LW_refuses_197 rfl 1 rfl ?_
                    refine z_bipush (pc := 198) d_LW_refuses_198 kb_50 ?_
                    refine z_iremK (pc := 200) d_LW_refuses_200 (by decide) ?_
                    refine z_iadd (pc := 201) d_LW_refuses_201 ?_
                    refine z_iconst (pc := 202) d_LW_refuses_202 ki_0 ?_
                    refine z_iconst (pc := 203) d_LW_refuses_203 ki_0 ?_
                    refine z_callYA (pc := 204) (kc2 := 43) (ks2 := 258) [.ref r0, .int (2 : Int32), .int ((10 : Int32) + (zirem x1 (50 : Int32))), .int (0 : Int32), .int (0 : Int32)] lkS_LW_156 (c_LW_call (m43, w) D42 r0 (2 : Int32) ((10 : Int32) + (zirem x1 (50 : Int32))) (0 : Int32) (0 : Int32)) (by decide) (by omega) (by omega) rfl rfl (Nat.le_of_ble_eq_true rfl) d_LW_refuses_204 (fun v44 D45 m46 => ?_)
                    refine z_ldc (pc := 207) w_k_LW_15 d_LW_refuses_207 ?_
                    refine z_icmp_ne (pc := 209) (tgt := 999) d_LW_refuses_209 (by decide) ?_ ?_
                    · refine z_aload_n (pc := 212) d_LW_refuses_212 rfl 0 rfl ?_
                      refine z_iconst (pc := 213) d_LW_refuses_213 ki_3 ?_
                      refine z_iload (pc := 214) d_LW_refuses_214 6 rfl ?_
                      refine z_bipush (pc := 216) d_LW_refuses_216 kb_99 ?_
                      refine z_iconst (pc := 218) d_LW_refuses_218 ki_0 ?_
                      refine z_callYA (pc := 219) (kc2 := 42) (ks2 := 252) [.ref r0, .int (3 : Int32), .int x6, .int (99 : Int32), .int (0 : Int32)] lkS_LW_156 (c_LW_call (m46, w) D45 r0 (3 : Int32) x6 (99 : Int32) (0 : Int32)) (by decide) (by omega) (by omega) rfl rfl (Nat.le_of_ble_eq_true rfl) d_LW_refuses_219 (fun v47 D48 m49 => ?_)
                      refine z_ldc (pc := 222) w_k_LW_33 d_LW_refuses_222 ?_
                      refine z_icmp_ne (pc := 224) (tgt := 999) d_LW_refuses_224 (by decide) ?_ ?_
                      · refine z_aload_n (pc := 227) d_LW_refuses_227 rfl 0 rfl ?_
                        refine z_iconst (pc := 228) d_LW_refuses_228 ki_3 ?_
                        refine z_iconst (pc := 229) d_LW_refuses_229 ki_0 ?_
                        refine z_bipush (pc := 230) d_LW_refuses_230 kb_10 ?_
                        refine z_iload_n (pc := 232) d_LW_refuses_232 rfl 1 rfl ?_
                        refine z_bipush (pc := 233) d_LW_refuses_233 kb_9 ?_
                        refine z_iremK (pc := 235) d_LW_refuses_235 (by decide) ?_
                        refine z_iadd (pc := 236) d_LW_refuses_236 ?_
                        refine z_iconst (pc := 237) d_LW_refuses_237 ki_0 ?_
                        refine z_callYA (pc := 238) (kc2 := 41) (ks2 := 246) [.ref r0, .int (3 : Int32), .int (0 : Int32), .int ((10 : Int32) + (zirem x1 (9 : Int32))), .int (0 : Int32)] lkS_LW_156 (c_LW_call (m49, w) D48 r0 (3 : Int32) (0 : Int32) ((10 : Int32) + (zirem x1 (9 : Int32))) (0 : Int32)) (by decide) (by omega) (by omega) rfl rfl (Nat.le_of_ble_eq_true rfl) d_LW_refuses_238 (fun v50 D51 m52 => ?_)
                        refine z_ldc (pc := 241) w_k_LW_15 d_LW_refuses_241 ?_
                        refine z_icmp_ne (pc := 243) (tgt := 999) d_LW_refuses_243 (by decide) ?_ ?_
                        · refine z_aload_n (pc := 246) d_LW_refuses_246 rfl 0 rfl ?_
                          refine z_iconst (pc := 247) d_LW_refuses_247 ki_4 ?_
                          refine z_iload (pc := 248) d_LW_refuses_248 7 rfl ?_
                          refine z_bipush (pc := 250) d_LW_refuses_250 kb_99 ?_
                          refine z_iconst (pc := 252) d_LW_refuses_252 ki_0 ?_
                          refine z_callYA (pc := 253) (kc2 := 40) (ks2 := 240) [.ref r0, .int (4 : Int32), .int x7, .int (99 : Int32), .int (0 : Int32)] lkS_LW_156 (c_LW_call (m52, w) D51 r0 (4 : Int32) x7 (99 : Int32) (0 : Int32)) (by decide) (by omega) (by omega) rfl rfl (Nat.le_of_ble_eq_true rfl) d_LW_refuses_253 (fun v53 D54 m55 => ?_)
                          refine z_ldc (pc := 256) w_k_LW_33 d_LW_refuses_256 ?_
                          refine z_icmp_ne (pc := 258) (tgt := 999) d_LW_refuses_258 (by decide) ?_ ?_
                          · refine z_aload_n (pc := 261) d_LW_refuses_261 rfl 0 rfl ?_
                            refine z_iconst (pc := 262) d_LW_refuses_262 ki_4 ?_
                            refine z_iconst (pc := 263) d_LW_refuses_263 ki_0 ?_
                            refine z_bipush (pc := 264) d_LW_refuses_264 kb_6 ?_
                            refine z_iload_n (pc := 266) d_LW_refuses_266 rfl 1 rfl ?_
                            refine z_bipush (pc := 267) d_LW_refuses_267 kb_9 ?_
                            refine z_iremK (pc := 269) d_LW_refuses_269 (by decide) ?_
                            refine z_iadd (pc := 270) d_LW_refuses_270 ?_
                            refine z_iconst (pc := 271) d_LW_refuses_271 ki_0 ?_
                            refine z_callYA (pc := 272) (kc2 := 39) (ks2 := 234) [.ref r0, .int (4 : Int32), .int (0 : Int32), .int ((6 : Int32) + (zirem x1 (9 : Int32))), .int (0 : Int32)] lkS_LW_156 (c_LW_call (m55, w) D54 r0 (4 : Int32) (0 : Int32) ((6 : Int32) + (zirem x1 (9 : Int32))) (0 : Int32)) (by decide) (by omega) (by omega) rfl rfl (Nat.le_of_ble_eq_true rfl) d_LW_refuses_272 (fun v56 D57 m58 => ?_)
                            refine z_ldc (pc := 275) w_k_LW_15 d_LW_refuses_275 ?_
                            refine z_icmp_ne (pc := 277) (tgt := 999) d_LW_refuses_277 (by decide) ?_ ?_
                            · refine z_jp (fun j299 : Int32 → Int32 → Int32 → Int32 → Int32 → Int32 → Int32 → Int32 → Int32 → Nat → Int32 → Int32 → zD → Option (Int32 × zD) => ∀ (x2 : Int32) (x3 : Int32) (x4 : Int32) (x5 : Int32) (x6 : Int32) (x7 : Int32) (x8 : Int32) (x9 : Int32) (x10 : Int32) (s0 : Nat) (s1 : Int32) (s2 : Int32) (m60 : Nat) (D59 : zD), zGO K Y_LW_refuses 11 49 294 (zqY w) (j299 x2 x3 x4 x5 x6 x7 x8 x9 x10 s0 s1 s2 D59) 39 234 (m60, w) D59 299 [(0, .ref r0), (1, .int x1), (2, .int x2), (3, .int x3), (4, .int x4), (5, .int x5), (6, .int x6), (7, .int x7), (8, .int x8), (9, .int x9), (10, .int x10)] [.int s2, .int s1, .ref s0]) (fun x2 x3 x4 x5 x6 x7 x8 x9 x10 s0 s1 s2 m60 D59 => ?_) (fun j299 h299 => ?_)
                              · refine z_bipush (pc := 299) d_LW_refuses_299 kb_9 ?_
                                refine z_iconst (pc := 301) d_LW_refuses_301 ki_0 ?_
                                refine z_callYA (pc := 302) (kc2 := 38) (ks2 := 228) [.ref s0, .int s1, .int s2, .int (9 : Int32), .int (0 : Int32)] lkS_LW_156 (c_LW_call (m60, w) D59 s0 s1 s2 (9 : Int32) (0 : Int32)) (by decide) (by omega) (by omega) rfl rfl (Nat.le_of_ble_eq_true rfl) d_LW_refuses_302 (fun v61 D62 m63 => ?_)
                                refine z_ldc (pc := 305) w_k_LW_33 d_LW_refuses_305 ?_
                                refine z_icmp_ne (pc := 307) (tgt := 999) d_LW_refuses_307 (by decide) ?_ ?_
                                · refine z_jp (fun j330 : Int32 → Int32 → Int32 → Int32 → Int32 → Int32 → Int32 → Int32 → Int32 → Nat → Int32 → Int32 → zD → Option (Int32 × zD) => ∀ (x2 : Int32) (x3 : Int32) (x4 : Int32) (x5 : Int32) (x6 : Int32) (x7 : Int32) (x8 : Int32) (x9 : Int32) (x10 : Int32) (s0 : Nat) (s1 : Int32) (s2 : Int32) (m65 : Nat) (D64 : zD), zGO K Y_LW_refuses 11 49 294 (zqY w) (j330 x2 x3 x4 x5 x6 x7 x8 x9 x10 s0 s1 s2 D64) 38 228 (m65, w) D64 330 [(0, .ref r0), (1, .int x1), (2, .int x2), (3, .int x3), (4, .int x4), (5, .int x5), (6, .int x6), (7, .int x7), (8, .int x8), (9, .int x9), (10, .int x10)] [.int s2, .int s1, .ref s0]) (fun x2 x3 x4 x5 x6 x7 x8 x9 x10 s0 s1 s2 m65 D64 => ?_) (fun j330 h330 => ?_)
                                  · refine z_bipush (pc := 330) d_LW_refuses_330 kb_99 ?_
                                    refine z_iconst (pc := 332) d_LW_refuses_332 ki_0 ?_
                                    refine z_callYA (pc := 333) (kc2 := 37) (ks2 := 222) [.ref s0, .int s1, .int s2, .int (99 : Int32), .int (0 : Int32)] lkS_LW_156 (c_LW_call (m65, w) D64 s0 s1 s2 (99 : Int32) (0 : Int32)) (by decide) (by omega) (by omega) rfl rfl (Nat.le_of_ble_eq_true rfl) d_LW_refuses_333 (fun v66 D67 m68 => ?_)
                                    refine z_ldc (pc := 336) w_k_LW_33 d_LW_refuses_336 ?_
                                    refine z_icmp_ne (pc := 338) (tgt := 999) d_LW_refuses_338 (by decide) ?_ ?_
                                    · refine z_jp (fun j366 : Int32 → Int32 → Int32 → Int32 → Int32 → Int32 → Int32 → Int32 → zD → Option (Int32 × zD) => ∀ (x2 : Int32) (x3 : Int32) (x4 : Int32) (x6 : Int32) (x7 : Int32) (x8 : Int32) (x9 : Int32) (x10 : Int32) (m70 : Nat) (D69 : zD), zGO K Y_LW_refuses 11 49 294 (zqY w) (j366 x2 x3 x4 x6 x7 x8 x9 x10 D69) 36 216 (m70, w) D69 366 [(0, .ref r0), (1, .int x1), (2, .int x2), (3, .int x3), (4, .int x4), (6, .int x6), (7, .int x7), (8, .int x8), (9, .int x9), (10, .int x10)] []) (fun x2 x3 x4 x6 x7 x8 x9 x10 m70 D69 => ?_) (fun j366 h366 => ?_)
                                      · refine z_aload_n (pc := 366) d_LW_refuses_366 rfl 0 rfl ?_
                                        refine z_bipush (pc := 367) d_LW_refuses_367 kb_7 ?_
                                        refine z_iload (pc := 369) d_LW_refuses_369 6 rfl ?_
                                        refine z_iconst (pc := 371) d_LW_refuses_371 ki_0 ?_
                                        refine z_bipush (pc := 372) d_LW_refuses_372 kb_9 ?_
                                        refine z_callYA (pc := 374) (kc2 := 35) (ks2 := 210) [.ref r0, .int (7 : Int32), .int x7, .int (0 : Int32), .int (9 : Int32)] lkS_LW_156 (c_LW_call (m70, w) D69 r0 (7 : Int32) x7 (0 : Int32) (9 : Int32)) (by decide) (by omega) (by omega) rfl rfl (Nat.le_of_ble_eq_true rfl) d_LW_refuses_374 (fun v71 D72 m73 => ?_)
                                        refine z_ldc (pc := 377) w_k_LW_33 d_LW_refuses_377 ?_
                                        refine z_icmp_ne (pc := 379) (tgt := 999) d_LW_refuses_379 (by decide) ?_ ?_
                                        · refine z_aload_n (pc := 382) d_LW_refuses_382 rfl 0 rfl ?_
                                          refine z_bipush (pc := 383) d_LW_refuses_383 kb_7 ?_
                                          refine z_iconst (pc := 385) d_LW_refuses_385 ki_0 ?_
                                          refine z_iload (pc := 386) d_LW_refuses_386 5 rfl ?_
                                          refine z_bipush (pc := 388) d_LW_refuses_388 kb_9 ?_
                                          refine z_callYA (pc := 390) (kc2 := 34) (ks2 := 204) [.ref r0, .int (7 : Int32), .int (0 : Int32), .int x6, .int (9 : Int32)] lkS_LW_156 (c_LW_call (m73, w) D72 r0 (7 : Int32) (0 : Int32) x6 (9 : Int32)) (by decide) (by omega) (by omega) rfl rfl (Nat.le_of_ble_eq_true rfl) d_LW_refuses_390 (fun v74 D75 m76 => ?_)
                                          refine z_ldc (pc := 393) w_k_LW_33 d_LW_refuses_393 ?_
                                          refine z_icmp_ne (pc := 395) (tgt := 999) d_LW_refuses_395 (by decide) ?_ ?_
                                          · refine z_aload_n (pc := 398) d_LW_refuses_398 rfl 0 rfl ?_
                                            refine z_bipush (pc := 399) d_LW_refuses_399 kb_7 ?_
                                            refine z_iconst (pc := 401) d_LW_refuses_401 ki_0 ?_
                                            refine z_iconst (pc := 402) d_LW_refuses_402 ki_0 ?_
                                            refine z_bipush (pc := 403) d_LW_refuses_403 kb_6 ?_
                                            refine z_iload_n (pc := 405) d_LW_refuses_405 rfl 1 rfl ?_
                                            refine z_bipush (pc := 406) d_LW_refuses_406 kb_9 ?_
                                            refine z_iremK (pc := 408) d_LW_refuses_408 (by decide) ?_
                                            refine z_iadd (pc := 409) d_LW_refuses_409 ?_
                                            refine z_callYA (pc := 410) (kc2 := 33) (ks2 := 198) [.ref r0, .int (7 : Int32), .int (0 : Int32), .int (0 : Int32), .int ((6 : Int32) + (zirem x1 (9 : Int32)))] lkS_LW_156 (c_LW_call (m76, w) D75 r0 (7 : Int32) (0 : Int32) (0 : Int32) ((6 : Int32) + (zirem x1 (9 : Int32)))) (by decide) (by omega) (by omega) rfl rfl (Nat.le_of_ble_eq_true rfl) d_LW_refuses_410 (fun v77 D78 m79 => ?_)
                                            refine z_ldc (pc := 413) w_k_LW_15 d_LW_refuses_413 ?_
                                            refine z_icmp_ne (pc := 415) (tgt := 999) d_LW_refuses_415 (by decide) ?_ ?_
                                            · refine z_aload_n (pc := 418) d_LW_refuses_418 rfl 0 rfl ?_
                                              refine z_iload (pc := 419) d_LW_refuses_419 7 rfl ?_
                                              refine z_iconst (pc := 421) d_LW_refuses_421 ki_0 ?_
                                              refine z_iconst (pc := 422) d_LW_refuses_422 ki_1 ?_
                                              refine z_iconst (pc := 423) d_LW_refuses_423 ki_1 ?_
                                              refine z_iconst (pc := 424) d_LW_refuses_424 ki_1 ?_
                                              refine z_callYH (pc := 425) (kc2 := 32) (ks2 := 192) [.ref r0, .int x8, .int (0 : Int32), .int (1 : Int32), .int (1 : Int32), .int (1 : Int32)] lkH_LW_160 (c_LW_sirens (m79, w) D78 r0 x8 (0 : Int32) (1 : Int32) (1 : Int32) (1 : Int32)) (by decide) (by omega) (by omega) rfl rfl (Nat.le_of_ble_eq_true rfl) d_LW_refuses_425 (fun v80 D81 m82 => ?_)
                                              refine z_ldc (pc := 428) w_k_LW_15 d_LW_refuses_428 ?_
                                              refine z_icmp_ne (pc := 430) (tgt := 999) d_LW_refuses_430 (by decide) ?_ ?_
                                              · refine z_aload_n (pc := 433) d_LW_refuses_433 rfl 0 rfl ?_
                                                refine z_iconst (pc := 434) d_LW_refuses_434 ki_0 ?_
                                                refine z_iload (pc := 435) d_LW_refuses_435 7 rfl ?_
                                                refine z_iconst (pc := 437) d_LW_refuses_437 ki_1 ?_
                                                refine z_iconst (pc := 438) d_LW_refuses_438 ki_1 ?_
                                                refine z_iconst (pc := 439) d_LW_refuses_439 ki_1 ?_
                                                refine z_callYH (pc := 440) (kc2 := 31) (ks2 := 186) [.ref r0, .int (0 : Int32), .int x8, .int (1 : Int32), .int (1 : Int32), .int (1 : Int32)] lkH_LW_160 (c_LW_sirens (m82, w) D81 r0 (0 : Int32) x8 (1 : Int32) (1 : Int32) (1 : Int32)) (by decide) (by omega) (by omega) rfl rfl (Nat.le_of_ble_eq_true rfl) d_LW_refuses_440 (fun v83 D84 m85 => ?_)
                                                refine z_ldc (pc := 443) w_k_LW_15 d_LW_refuses_443 ?_
                                                refine z_icmp_ne (pc := 445) (tgt := 999) d_LW_refuses_445 (by decide) ?_ ?_
                                                · refine z_jp (fun j468 : Int32 → Int32 → Int32 → Int32 → Int32 → Int32 → Int32 → Nat → Int32 → Int32 → Int32 → zD → Option (Int32 × zD) => ∀ (x2 : Int32) (x3 : Int32) (x4 : Int32) (x6 : Int32) (x7 : Int32) (x9 : Int32) (x10 : Int32) (s0 : Nat) (s1 : Int32) (s2 : Int32) (s3 : Int32) (m87 : Nat) (D86 : zD), zGO K Y_LW_refuses 11 49 294 (zqY w) (j468 x2 x3 x4 x6 x7 x9 x10 s0 s1 s2 s3 D86) 31 186 (m87, w) D86 468 [(0, .ref r0), (1, .int x1), (2, .int x2), (3, .int x3), (4, .int x4), (6, .int x6), (7, .int x7), (9, .int x9), (10, .int x10)] [.int s3, .int s2, .int s1, .ref s0]) (fun x2 x3 x4 x6 x7 x9 x10 s0 s1 s2 s3 m87 D86 => ?_) (fun j468 h468 => ?_)
                                                  · refine z_iconst (pc := 468) d_LW_refuses_468 ki_1 ?_
                                                    refine z_iconst (pc := 469) d_LW_refuses_469 ki_1 ?_
                                                    refine z_callYH (pc := 470) (kc2 := 30) (ks2 := 180) [.ref s0, .int s1, .int s2, .int s3, .int (1 : Int32), .int (1 : Int32)] lkH_LW_160 (c_LW_sirens (m87, w) D86 s0 s1 s2 s3 (1 : Int32) (1 : Int32)) (by decide) (by omega) (by omega) rfl rfl (Nat.le_of_ble_eq_true rfl) d_LW_refuses_470 (fun v88 D89 m90 => ?_)
                                                    refine z_ldc (pc := 473) w_k_LW_15 d_LW_refuses_473 ?_
                                                    refine z_icmp_ne (pc := 475) (tgt := 999) d_LW_refuses_475 (by decide) ?_ ?_
                                                    · refine z_jp (fun j499 : Int32 → Int32 → Int32 → Int32 → Int32 → Int32 → Int32 → Nat → Int32 → Int32 → Int32 → Int32 → zD → Option (Int32 × zD) => ∀ (x2 : Int32) (x3 : Int32) (x4 : Int32) (x6 : Int32) (x7 : Int32) (x9 : Int32) (x10 : Int32) (s0 : Nat) (s1 : Int32) (s2 : Int32) (s3 : Int32) (s4 : Int32) (m92 : Nat) (D91 : zD), zGO K Y_LW_refuses 11 49 294 (zqY w) (j499 x2 x3 x4 x6 x7 x9 x10 s0 s1 s2 s3 s4 D91) 30 180 (m92, w) D91 499 [(0, .ref r0), (1, .int x1), (2, .int x2), (3, .int x3), (4, .int x4), (6, .int x6), (7, .int x7), (9, .int x9), (10, .int x10)] [.int s4, .int s3, .int s2, .int s1, .ref s0]) (fun x2 x3 x4 x6 x7 x9 x10 s0 s1 s2 s3 s4 m92 D91 => ?_) (fun j499 h499 => ?_)
                                                      · refine z_iconst (pc := 499) d_LW_refuses_499 ki_1 ?_
                                                        refine z_callYH (pc := 500) (kc2 := 29) (ks2 := 174) [.ref s0, .int s1, .int s2, .int s3, .int s4, .int (1 : Int32)] lkH_LW_160 (c_LW_sirens (m92, w) D91 s0 s1 s2 s3 s4 (1 : Int32)) (by decide) (by omega) (by omega) rfl rfl (Nat.le_of_ble_eq_true rfl) d_LW_refuses_500 (fun v93 D94 m95 => ?_)
                                                        refine z_ldc (pc := 503) w_k_LW_15 d_LW_refuses_503 ?_
                                                        refine z_icmp_ne (pc := 505) (tgt := 999) d_LW_refuses_505 (by decide) ?_ ?_
                                                        · refine z_jp (fun j530 : Int32 → Int32 → Int32 → Int32 → Int32 → Int32 → Int32 → Nat → Int32 → Int32 → Int32 → Int32 → Int32 → zD → Option (Int32 × zD) => ∀ (x2 : Int32) (x3 : Int32) (x4 : Int32) (x6 : Int32) (x7 : Int32) (x9 : Int32) (x10 : Int32) (s0 : Nat) (s1 : Int32) (s2 : Int32) (s3 : Int32) (s4 : Int32) (s5 : Int32) (m97 : Nat) (D96 : zD), zGO K Y_LW_refuses 11 49 294 (zqY w) (j530 x2 x3 x4 x6 x7 x9 x10 s0 s1 s2 s3 s4 s5 D96) 29 174 (m97, w) D96 530 [(0, .ref r0), (1, .int x1), (2, .int x2), (3, .int x3), (4, .int x4), (6, .int x6), (7, .int x7), (9, .int x9), (10, .int x10)] [.int s5, .int s4, .int s3, .int s2, .int s1, .ref s0]) (fun x2 x3 x4 x6 x7 x9 x10 s0 s1 s2 s3 s4 s5 m97 D96 => ?_) (fun j530 h530 => ?_)
                                                          · refine z_callYH (pc := 530) (kc2 := 28) (ks2 := 168) [.ref s0, .int s1, .int s2, .int s3, .int s4, .int s5] lkH_LW_160 (c_LW_sirens (m97, w) D96 s0 s1 s2 s3 s4 s5) (by decide) (by omega) (by omega) rfl rfl (Nat.le_of_ble_eq_true rfl) d_LW_refuses_530 (fun v98 D99 m100 => ?_)
                                                            refine z_ldc (pc := 533) w_k_LW_15 d_LW_refuses_533 ?_
                                                            refine z_icmp_ne (pc := 535) (tgt := 999) d_LW_refuses_535 (by decide) ?_ ?_
                                                            · refine z_aload_n (pc := 538) d_LW_refuses_538 rfl 0 rfl ?_
                                                              refine z_iload (pc := 539) d_LW_refuses_539 7 rfl ?_
                                                              refine z_iconst (pc := 541) d_LW_refuses_541 ki_0 ?_
                                                              refine z_iconst (pc := 542) d_LW_refuses_542 ki_0 ?_
                                                              refine z_iconst (pc := 543) d_LW_refuses_543 ki_0 ?_
                                                              refine z_callYH (pc := 544) (kc2 := 27) (ks2 := 162) [.ref r0, .int x9, .int (0 : Int32), .int (0 : Int32), .int (0 : Int32)] lkH_LW_164 (c_LW_hearers (m100, w) D99 r0 x9 (0 : Int32) (0 : Int32) (0 : Int32)) (by decide) (by omega) (by omega) rfl rfl (Nat.le_of_ble_eq_true rfl) d_LW_refuses_544 (fun v101 D102 m103 => ?_)
                                                              refine z_ldc (pc := 547) w_k_LW_15 d_LW_refuses_547 ?_
                                                              refine z_icmp_ne (pc := 549) (tgt := 999) d_LW_refuses_549 (by decide) ?_ ?_
                                                              · refine z_aload_n (pc := 552) d_LW_refuses_552 rfl 0 rfl ?_
                                                                refine z_iconst (pc := 553) d_LW_refuses_553 ki_0 ?_
                                                                refine z_iload (pc := 554) d_LW_refuses_554 7 rfl ?_
                                                                refine z_iconst (pc := 556) d_LW_refuses_556 ki_0 ?_
                                                                refine z_iconst (pc := 557) d_LW_refuses_557 ki_0 ?_
                                                                refine z_callYH (pc := 558) (kc2 := 26) (ks2 := 156) [.ref r0, .int (0 : Int32), .int x9, .int (0 : Int32), .int (0 : Int32)] lkH_LW_164 (c_LW_hearers (m103, w) D102 r0 (0 : Int32) x9 (0 : Int32) (0 : Int32)) (by decide) (by omega) (by omega) rfl rfl (Nat.le_of_ble_eq_true rfl) d_LW_refuses_558 (fun v104 D105 m106 => ?_)
                                                                refine z_ldc (pc := 561) w_k_LW_15 d_LW_refuses_561 ?_
                                                                refine z_icmp_ne (pc := 563) (tgt := 999) d_LW_refuses_563 (by decide) ?_ ?_
                                                                · refine z_aload_n (pc := 566) d_LW_refuses_566 rfl 0 rfl ?_
                                                                  refine z_iconst (pc := 567) d_LW_refuses_567 ki_0 ?_
                                                                  refine z_iconst (pc := 568) d_LW_refuses_568 ki_0 ?_
                                                                  refine z_iload (pc := 569) d_LW_refuses_569 8 rfl ?_
                                                                  refine z_iconst (pc := 571) d_LW_refuses_571 ki_0 ?_
                                                                  refine z_callYH (pc := 572) (kc2 := 25) (ks2 := 150) [.ref r0, .int (0 : Int32), .int (0 : Int32), .int x10, .int (0 : Int32)] lkH_LW_164 (c_LW_hearers (m106, w) D105 r0 (0 : Int32) (0 : Int32) x10 (0 : Int32)) (by decide) (by omega) (by omega) rfl rfl (Nat.le_of_ble_eq_true rfl) d_LW_refuses_572 (fun v107 D108 m109 => ?_)
                                                                  refine z_ldc (pc := 575) w_k_LW_15 d_LW_refuses_575 ?_
                                                                  refine z_icmp_ne (pc := 577) (tgt := 999) d_LW_refuses_577 (by decide) ?_ ?_
                                                                  · refine z_aload_n (pc := 580) d_LW_refuses_580 rfl 0 rfl ?_
                                                                    refine z_iconst (pc := 581) d_LW_refuses_581 ki_0 ?_
                                                                    refine z_iconst (pc := 582) d_LW_refuses_582 ki_0 ?_
                                                                    refine z_iconst (pc := 583) d_LW_refuses_583 ki_0 ?_
                                                                    refine z_iload (pc := 584) d_LW_refuses_584 8 rfl ?_
                                                                    refine z_callYH (pc := 586) (kc2 := 24) (ks2 := 144) [.ref r0, .int (0 : Int32), .int (0 : Int32), .int (0 : Int32), .int x10] lkH_LW_164 (c_LW_hearers (m109, w) D108 r0 (0 : Int32) (0 : Int32) (0 : Int32) x10) (by decide) (by omega) (by omega) rfl rfl (Nat.le_of_ble_eq_true rfl) d_LW_refuses_586 (fun v110 D111 m112 => ?_)
                                                                    refine z_ldc (pc := 589) w_k_LW_15 d_LW_refuses_589 ?_
                                                                    refine z_icmp_ne (pc := 591) (tgt := 999) d_LW_refuses_591 (by decide) ?_ ?_
                                                                    · refine z_jp (fun j606 : Int32 → Int32 → Int32 → Int32 → Int32 → Int32 → Int32 → Nat → Int32 → zD → Option (Int32 × zD) => ∀ (x2 : Int32) (x3 : Int32) (x4 : Int32) (x6 : Int32) (x7 : Int32) (x9 : Int32) (x10 : Int32) (s0 : Nat) (s1 : Int32) (m114 : Nat) (D113 : zD), zGO K Y_LW_refuses 11 49 294 (zqY w) (j606 x2 x3 x4 x6 x7 x9 x10 s0 s1 D113) 24 144 (m114, w) D113 606 [(0, .ref r0), (1, .int x1), (2, .int x2), (3, .int x3), (4, .int x4), (6, .int x6), (7, .int x7), (9, .int x9), (10, .int x10)] [.int s1, .ref s0]) (fun x2 x3 x4 x6 x7 x9 x10 s0 s1 m114 D113 => ?_) (fun j606 h606 => ?_)
                                                                      · refine z_iload (pc := 606) d_LW_refuses_606 7 rfl ?_
                                                                        refine z_callYH (pc := 608) (kc2 := 23) (ks2 := 138) [.ref s0, .int s1, .int x9] lkH_LW_167 (c_LW_walls (m114, w) D113 s0 s1 x9) (by decide) (by omega) (by omega) rfl rfl (Nat.le_of_ble_eq_true rfl) d_LW_refuses_608 (fun v115 D116 m117 => ?_)
                                                                        refine z_ldc (pc := 611) w_k_LW_15 d_LW_refuses_611 ?_
                                                                        refine z_icmp_ne (pc := 613) (tgt := 999) d_LW_refuses_613 (by decide) ?_ ?_
                                                                        · refine z_aload_n (pc := 616) d_LW_refuses_616 rfl 0 rfl ?_
                                                                          refine z_iload (pc := 617) d_LW_refuses_617 5 rfl ?_
                                                                          refine z_iconst (pc := 619) d_LW_refuses_619 ki_1 ?_
                                                                          refine z_callYH (pc := 620) (kc2 := 22) (ks2 := 132) [.ref r0, .int x6, .int (1 : Int32)] lkH_LW_171 (c_LW_turned (m117, w) D116 r0 x6 (1 : Int32)) (by decide) (by omega) (by omega) rfl rfl (Nat.le_of_ble_eq_true rfl) d_LW_refuses_620 (fun v118 D119 m120 => ?_)
                                                                          refine z_ldc (pc := 623) w_k_LW_33 d_LW_refuses_623 ?_
                                                                          refine z_icmp_ne (pc := 625) (tgt := 999) d_LW_refuses_625 (by decide) ?_ ?_
                                                                          · refine z_aload_n (pc := 628) d_LW_refuses_628 rfl 0 rfl ?_
                                                                            refine z_bipush (pc := 629) d_LW_refuses_629 kb_8 ?_
                                                                            refine z_iload (pc := 631) d_LW_refuses_631 6 rfl ?_
                                                                            refine z_bipush (pc := 633) d_LW_refuses_633 kb_9 ?_
                                                                            refine z_bipush (pc := 635) d_LW_refuses_635 kb_9 ?_
                                                                            refine z_callYA (pc := 637) (kc2 := 21) (ks2 := 126) [.ref r0, .int (8 : Int32), .int x7, .int (9 : Int32), .int (9 : Int32)] lkS_LW_156 (c_LW_call (m120, w) D119 r0 (8 : Int32) x7 (9 : Int32) (9 : Int32)) (by decide) (by omega) (by omega) rfl rfl (Nat.le_of_ble_eq_true rfl) d_LW_refuses_637 (fun v121 D122 m123 => ?_)
                                                                            refine z_ldc (pc := 640) w_k_LW_33 d_LW_refuses_640 ?_
                                                                            refine z_icmp_ne (pc := 642) (tgt := 999) d_LW_refuses_642 (by decide) ?_ ?_
                                                                            · refine z_aload_n (pc := 645) d_LW_refuses_645 rfl 0 rfl ?_
                                                                              refine z_bipush (pc := 646) d_LW_refuses_646 kb_8 ?_
                                                                              refine z_iconst (pc := 648) d_LW_refuses_648 ki_0 ?_
                                                                              refine z_iload (pc := 649) d_LW_refuses_649 8 rfl ?_
                                                                              refine z_iconst (pc := 651) d_LW_refuses_651 ki_0 ?_
                                                                              refine z_callYA (pc := 652) (kc2 := 20) (ks2 := 120) [.ref r0, .int (8 : Int32), .int (0 : Int32), .int x10, .int (0 : Int32)] lkS_LW_156 (c_LW_call (m123, w) D122 r0 (8 : Int32) (0 : Int32) x10 (0 : Int32)) (by decide) (by omega) (by omega) rfl rfl (Nat.le_of_ble_eq_true rfl) d_LW_refuses_652 (fun v124 D125 m126 => ?_)
                                                                              refine z_ldc (pc := 655) w_k_LW_15 d_LW_refuses_655 ?_
                                                                              refine z_icmp_ne (pc := 657) (tgt := 999) d_LW_refuses_657 (by decide) ?_ ?_
                                                                              · refine z_aload_n (pc := 660) d_LW_refuses_660 rfl 0 rfl ?_
                                                                                refine z_bipush (pc := 661) d_LW_refuses_661 kb_8 ?_
                                                                                refine z_iconst (pc := 663) d_LW_refuses_663 ki_0 ?_
                                                                                refine z_iconst (pc := 664) d_LW_refuses_664 ki_0 ?_
                                                                                refine z_iload (pc := 665) d_LW_refuses_665 8 rfl ?_
                                                                                refine z_callYA (pc := 667) (kc2 := 19) (ks2 := 114) [.ref r0, .int (8 : Int32), .int (0 : Int32), .int (0 : Int32), .int x10] lkS_LW_156 (c_LW_call (m126, w) D125 r0 (8 : Int32) (0 : Int32) (0 : Int32) x10) (by decide) (by omega) (by omega) rfl rfl (Nat.le_of_ble_eq_true rfl) d_LW_refuses_667 (fun v127 D128 m129 => ?_)
                                                                                refine z_ldc (pc := 670) w_k_LW_15 d_LW_refuses_670 ?_
                                                                                refine z_icmp_ne (pc := 672) (tgt := 999) d_LW_refuses_672 (by decide) ?_ ?_
                                                                                · refine z_jp (fun j695 : Int32 → Int32 → Int32 → Int32 → Int32 → Nat → Int32 → Int32 → zD → Option (Int32 × zD) => ∀ (x2 : Int32) (x3 : Int32) (x4 : Int32) (x6 : Int32) (x7 : Int32) (s0 : Nat) (s1 : Int32) (s2 : Int32) (m131 : Nat) (D130 : zD), zGO K Y_LW_refuses 11 49 294 (zqY w) (j695 x2 x3 x4 x6 x7 s0 s1 s2 D130) 19 114 (m131, w) D130 695 [(0, .ref r0), (1, .int x1), (2, .int x2), (3, .int x3), (4, .int x4), (6, .int x6), (7, .int x7)] [.int s2, .int s1, .ref s0]) (fun x2 x3 x4 x6 x7 s0 s1 s2 m131 D130 => ?_) (fun j695 h695 => ?_)
                                                                                  · refine z_iconst (pc := 695) d_LW_refuses_695 ki_0 ?_
                                                                                    refine z_iconst (pc := 696) d_LW_refuses_696 ki_0 ?_
                                                                                    refine z_callYA (pc := 697) (kc2 := 18) (ks2 := 108) [.ref s0, .int s1, .int s2, .int (0 : Int32), .int (0 : Int32)] lkS_LW_156 (c_LW_call (m131, w) D130 s0 s1 s2 (0 : Int32) (0 : Int32)) (by decide) (by omega) (by omega) rfl rfl (Nat.le_of_ble_eq_true rfl) d_LW_refuses_697 (fun v132 D133 m134 => ?_)
                                                                                    refine z_ldc (pc := 700) w_k_LW_15 d_LW_refuses_700 ?_
                                                                                    refine z_icmp_ne (pc := 702) (tgt := 999) d_LW_refuses_702 (by decide) ?_ ?_
                                                                                    · refine z_jp (fun j726 : Int32 → Int32 → Int32 → Int32 → Int32 → Nat → Int32 → Int32 → Int32 → zD → Option (Int32 × zD) => ∀ (x2 : Int32) (x3 : Int32) (x4 : Int32) (x6 : Int32) (x7 : Int32) (s0 : Nat) (s1 : Int32) (s2 : Int32) (s3 : Int32) (m136 : Nat) (D135 : zD), zGO K Y_LW_refuses 11 49 294 (zqY w) (j726 x2 x3 x4 x6 x7 s0 s1 s2 s3 D135) 18 108 (m136, w) D135 726 [(0, .ref r0), (1, .int x1), (2, .int x2), (3, .int x3), (4, .int x4), (6, .int x6), (7, .int x7)] [.int s3, .int s2, .int s1, .ref s0]) (fun x2 x3 x4 x6 x7 s0 s1 s2 s3 m136 D135 => ?_) (fun j726 h726 => ?_)
                                                                                      · refine z_iconst (pc := 726) d_LW_refuses_726 ki_0 ?_
                                                                                        refine z_callYA (pc := 727) (kc2 := 17) (ks2 := 102) [.ref s0, .int s1, .int s2, .int s3, .int (0 : Int32)] lkS_LW_156 (c_LW_call (m136, w) D135 s0 s1 s2 s3 (0 : Int32)) (by decide) (by omega) (by omega) rfl rfl (Nat.le_of_ble_eq_true rfl) d_LW_refuses_727 (fun v137 D138 m139 => ?_)
                                                                                        refine z_ldc (pc := 730) w_k_LW_15 d_LW_refuses_730 ?_
                                                                                        refine z_icmp_ne (pc := 732) (tgt := 999) d_LW_refuses_732 (by decide) ?_ ?_
                                                                                        · refine z_jp (fun j756 : Int32 → Int32 → Int32 → Int32 → Int32 → Nat → Int32 → Int32 → Int32 → zD → Option (Int32 × zD) => ∀ (x2 : Int32) (x3 : Int32) (x4 : Int32) (x6 : Int32) (x7 : Int32) (s0 : Nat) (s1 : Int32) (s2 : Int32) (s3 : Int32) (m141 : Nat) (D140 : zD), zGO K Y_LW_refuses 11 49 294 (zqY w) (j756 x2 x3 x4 x6 x7 s0 s1 s2 s3 D140) 17 102 (m141, w) D140 756 [(0, .ref r0), (1, .int x1), (2, .int x2), (3, .int x3), (4, .int x4), (6, .int x6), (7, .int x7)] [.int s3, .int s2, .int s1, .ref s0]) (fun x2 x3 x4 x6 x7 s0 s1 s2 s3 m141 D140 => ?_) (fun j756 h756 => ?_)
                                                                                          · refine z_iconst (pc := 756) d_LW_refuses_756 ki_0 ?_
                                                                                            refine z_callYA (pc := 757) (kc2 := 16) (ks2 := 96) [.ref s0, .int s1, .int s2, .int s3, .int (0 : Int32)] lkS_LW_156 (c_LW_call (m141, w) D140 s0 s1 s2 s3 (0 : Int32)) (by decide) (by omega) (by omega) rfl rfl (Nat.le_of_ble_eq_true rfl) d_LW_refuses_757 (fun v142 D143 m144 => ?_)
                                                                                            refine z_ldc (pc := 760) w_k_LW_15 d_LW_refuses_760 ?_
                                                                                            refine z_icmp_ne (pc := 762) (tgt := 999) d_LW_refuses_762 (by decide) ?_ ?_
                                                                                            · refine z_aload_n (pc := 765) d_LW_refuses_765 rfl 0 rfl ?_
                                                                                              refine z_bipush (pc := 766) d_LW_refuses_766 kb_10 ?_
                                                                                              refine z_iconst (pc := 768) d_LW_refuses_768 ki_2 ?_
                                                                                              refine z_iload_n (pc := 769) d_LW_refuses_769 rfl 1 rfl ?_
                                                                                              refine z_bipush (pc := 770) d_LW_refuses_770 kb_9 ?_
                                                                                              refine z_iremK (pc := 772) d_LW_refuses_772 (by decide) ?_
                                                                                              refine z_iadd (pc := 773) d_LW_refuses_773 ?_
                                                                                              refine z_iconst (pc := 774) d_LW_refuses_774 ki_5 ?_
                                                                                              refine z_iconst (pc := 775) d_LW_refuses_775 ki_0 ?_
                                                                                              refine z_callYA (pc := 776) (kc2 := 15) (ks2 := 90) [.ref r0, .int (10 : Int32), .int ((2 : Int32) + (zirem x1 (9 : Int32))), .int (5 : Int32), .int (0 : Int32)] lkS_LW_156 (c_LW_call (m144, w) D143 r0 (10 : Int32) ((2 : Int32) + (zirem x1 (9 : Int32))) (5 : Int32) (0 : Int32)) (by decide) (by omega) (by omega) rfl rfl (Nat.le_of_ble_eq_true rfl) d_LW_refuses_776 (fun v145 D146 m147 => ?_)
                                                                                              refine z_ldc (pc := 779) w_k_LW_15 d_LW_refuses_779 ?_
                                                                                              refine z_icmp_ne (pc := 781) (tgt := 999) d_LW_refuses_781 (by decide) ?_ ?_
                                                                                              · refine z_aload_n (pc := 784) d_LW_refuses_784 rfl 0 rfl ?_
                                                                                                refine z_bipush (pc := 785) d_LW_refuses_785 kb_12 ?_
                                                                                                refine z_iload (pc := 787) d_LW_refuses_787 5 rfl ?_
                                                                                                refine z_sipush (pc := 789) d_LW_refuses_789 ks_9999 ?_
                                                                                                refine z_bipush (pc := 792) d_LW_refuses_792 kb_9 ?_
                                                                                                refine z_callYA (pc := 794) (kc2 := 14) (ks2 := 84) [.ref r0, .int (12 : Int32), .int x6, .int (9999 : Int32), .int (9 : Int32)] lkS_LW_156 (c_LW_call (m147, w) D146 r0 (12 : Int32) x6 (9999 : Int32) (9 : Int32)) (by decide) (by omega) (by omega) rfl rfl (Nat.le_of_ble_eq_true rfl) d_LW_refuses_794 (fun v148 D149 m150 => ?_)
                                                                                                refine z_ldc (pc := 797) w_k_LW_33 d_LW_refuses_797 ?_
                                                                                                refine z_icmp_ne (pc := 799) (tgt := 999) d_LW_refuses_799 (by decide) ?_ ?_
                                                                                                · refine z_jp (fun j824 : Int32 → Int32 → Int32 → Int32 → Int32 → Nat → Int32 → Int32 → Int32 → zD → Option (Int32 × zD) => ∀ (x2 : Int32) (x3 : Int32) (x4 : Int32) (x6 : Int32) (x7 : Int32) (s0 : Nat) (s1 : Int32) (s2 : Int32) (s3 : Int32) (m152 : Nat) (D151 : zD), zGO K Y_LW_refuses 11 49 294 (zqY w) (j824 x2 x3 x4 x6 x7 s0 s1 s2 s3 D151) 14 84 (m152, w) D151 824 [(0, .ref r0), (1, .int x1), (2, .int x2), (3, .int x3), (4, .int x4), (6, .int x6), (7, .int x7)] [.int s3, .int s2, .int s1, .ref s0]) (fun x2 x3 x4 x6 x7 s0 s1 s2 s3 m152 D151 => ?_) (fun j824 h824 => ?_)
                                                                                                  · refine z_iconst (pc := 824) d_LW_refuses_824 ki_0 ?_
                                                                                                    refine z_callYA (pc := 825) (kc2 := 13) (ks2 := 78) [.ref s0, .int s1, .int s2, .int s3, .int (0 : Int32)] lkS_LW_156 (c_LW_call (m152, w) D151 s0 s1 s2 s3 (0 : Int32)) (by decide) (by omega) (by omega) rfl rfl (Nat.le_of_ble_eq_true rfl) d_LW_refuses_825 (fun v153 D154 m155 => ?_)
                                                                                                    refine z_ldc (pc := 828) w_k_LW_15 d_LW_refuses_828 ?_
                                                                                                    refine z_icmp_ne (pc := 830) (tgt := 999) d_LW_refuses_830 (by decide) ?_ ?_
                                                                                                    · refine z_aload_n (pc := 833) d_LW_refuses_833 rfl 0 rfl ?_
                                                                                                      refine z_bipush (pc := 834) d_LW_refuses_834 kb_12 ?_
                                                                                                      refine z_iconst (pc := 836) d_LW_refuses_836 ki_0 ?_
                                                                                                      refine z_iconst (pc := 837) d_LW_refuses_837 ki_0 ?_
                                                                                                      refine z_iconst (pc := 838) d_LW_refuses_838 ki_2 ?_
                                                                                                      refine z_iload_n (pc := 839) d_LW_refuses_839 rfl 1 rfl ?_
                                                                                                      refine z_bipush (pc := 840) d_LW_refuses_840 kb_9 ?_
                                                                                                      refine z_iremK (pc := 842) d_LW_refuses_842 (by decide) ?_
                                                                                                      refine z_iadd (pc := 843) d_LW_refuses_843 ?_
                                                                                                      refine z_callYA (pc := 844) (kc2 := 12) (ks2 := 72) [.ref r0, .int (12 : Int32), .int (0 : Int32), .int (0 : Int32), .int ((2 : Int32) + (zirem x1 (9 : Int32)))] lkS_LW_156 (c_LW_call (m155, w) D154 r0 (12 : Int32) (0 : Int32) (0 : Int32) ((2 : Int32) + (zirem x1 (9 : Int32)))) (by decide) (by omega) (by omega) rfl rfl (Nat.le_of_ble_eq_true rfl) d_LW_refuses_844 (fun v156 D157 m158 => ?_)
                                                                                                      refine z_ldc (pc := 847) w_k_LW_15 d_LW_refuses_847 ?_
                                                                                                      refine z_icmp_ne (pc := 849) (tgt := 999) d_LW_refuses_849 (by decide) ?_ ?_
                                                                                                      · refine z_aload_n (pc := 852) d_LW_refuses_852 rfl 0 rfl ?_
                                                                                                        refine z_bipush (pc := 853) d_LW_refuses_853 kb_13 ?_
                                                                                                        refine z_iload (pc := 855) d_LW_refuses_855 6 rfl ?_
                                                                                                        refine z_iconst (pc := 857) d_LW_refuses_857 ki_0 ?_
                                                                                                        refine z_iconst (pc := 858) d_LW_refuses_858 ki_0 ?_
                                                                                                        refine z_callYA (pc := 859) (kc2 := 11) (ks2 := 66) [.ref r0, .int (13 : Int32), .int x7, .int (0 : Int32), .int (0 : Int32)] lkS_LW_156 (c_LW_call (m158, w) D157 r0 (13 : Int32) x7 (0 : Int32) (0 : Int32)) (by decide) (by omega) (by omega) rfl rfl (Nat.le_of_ble_eq_true rfl) d_LW_refuses_859 (fun v159 D160 m161 => ?_)
                                                                                                        refine z_ldc (pc := 862) w_k_LW_33 d_LW_refuses_862 ?_
                                                                                                        refine z_icmp_ne (pc := 864) (tgt := 999) d_LW_refuses_864 (by decide) ?_ ?_
                                                                                                        · refine z_aload_n (pc := 867) d_LW_refuses_867 rfl 0 rfl ?_
                                                                                                          refine z_bipush (pc := 868) d_LW_refuses_868 kb_13 ?_
                                                                                                          refine z_iconst (pc := 870) d_LW_refuses_870 ki_0 ?_
                                                                                                          refine z_iload (pc := 871) d_LW_refuses_871 5 rfl ?_
                                                                                                          refine z_iconst (pc := 873) d_LW_refuses_873 ki_0 ?_
                                                                                                          refine z_callYA (pc := 874) (kc2 := 10) (ks2 := 60) [.ref r0, .int (13 : Int32), .int (0 : Int32), .int x6, .int (0 : Int32)] lkS_LW_156 (c_LW_call (m161, w) D160 r0 (13 : Int32) (0 : Int32) x6 (0 : Int32)) (by decide) (by omega) (by omega) rfl rfl (Nat.le_of_ble_eq_true rfl) d_LW_refuses_874 (fun v162 D163 m164 => ?_)
                                                                                                          refine z_ldc (pc := 877) w_k_LW_33 d_LW_refuses_877 ?_
                                                                                                          refine z_icmp_ne (pc := 879) (tgt := 999) d_LW_refuses_879 (by decide) ?_ ?_
                                                                                                          · refine z_jp (fun j902 : Int32 → Int32 → Int32 → Nat → Int32 → Int32 → zD → Option (Int32 × zD) => ∀ (x2 : Int32) (x3 : Int32) (x4 : Int32) (s0 : Nat) (s1 : Int32) (s2 : Int32) (m166 : Nat) (D165 : zD), zGO K Y_LW_refuses 11 49 294 (zqY w) (j902 x2 x3 x4 s0 s1 s2 D165) 10 60 (m166, w) D165 902 [(0, .ref r0), (1, .int x1), (2, .int x2), (3, .int x3), (4, .int x4)] [.int s2, .int s1, .ref s0]) (fun x2 x3 x4 s0 s1 s2 m166 D165 => ?_) (fun j902 h902 => ?_)
                                                                                                            · refine z_iconst (pc := 902) d_LW_refuses_902 ki_0 ?_
                                                                                                              refine z_iconst (pc := 903) d_LW_refuses_903 ki_0 ?_
                                                                                                              refine z_callYA (pc := 904) (kc2 := 9) (ks2 := 54) [.ref s0, .int s1, .int s2, .int (0 : Int32), .int (0 : Int32)] lkS_LW_156 (c_LW_call (m166, w) D165 s0 s1 s2 (0 : Int32) (0 : Int32)) (by decide) (by omega) (by omega) rfl rfl (Nat.le_of_ble_eq_true rfl) d_LW_refuses_904 (fun v167 D168 m169 => ?_)
                                                                                                              refine z_ldc (pc := 907) w_k_LW_15 d_LW_refuses_907 ?_
                                                                                                              refine z_icmp_ne (pc := 909) (tgt := 999) d_LW_refuses_909 (by decide) ?_ ?_
                                                                                                              · refine z_aload_n (pc := 912) d_LW_refuses_912 rfl 0 rfl ?_
                                                                                                                refine z_bipush (pc := 913) d_LW_refuses_913 kb_15 ?_
                                                                                                                refine z_iconst (pc := 915) d_LW_refuses_915 ki_2 ?_
                                                                                                                refine z_iload_n (pc := 916) d_LW_refuses_916 rfl 1 rfl ?_
                                                                                                                refine z_bipush (pc := 917) d_LW_refuses_917 kb_50 ?_
                                                                                                                refine z_iremK (pc := 919) d_LW_refuses_919 (by decide) ?_
                                                                                                                refine z_iadd (pc := 920) d_LW_refuses_920 ?_
                                                                                                                refine z_iconst (pc := 921) d_LW_refuses_921 ki_0 ?_
                                                                                                                refine z_iconst (pc := 922) d_LW_refuses_922 ki_0 ?_
                                                                                                                refine z_callYA (pc := 923) (kc2 := 8) (ks2 := 48) [.ref r0, .int (15 : Int32), .int ((2 : Int32) + (zirem x1 (50 : Int32))), .int (0 : Int32), .int (0 : Int32)] lkS_LW_156 (c_LW_call (m169, w) D168 r0 (15 : Int32) ((2 : Int32) + (zirem x1 (50 : Int32))) (0 : Int32) (0 : Int32)) (by decide) (by omega) (by omega) rfl rfl (Nat.le_of_ble_eq_true rfl) d_LW_refuses_923 (fun v170 D171 m172 => ?_)
                                                                                                                refine z_ldc (pc := 926) w_k_LW_33 d_LW_refuses_926 ?_
                                                                                                                refine z_icmp_ne (pc := 928) (tgt := 999) d_LW_refuses_928 (by decide) ?_ ?_
                                                                                                                · refine z_aload_n (pc := 931) d_LW_refuses_931 rfl 0 rfl ?_
                                                                                                                  refine z_bipush (pc := 932) d_LW_refuses_932 kb_16 ?_
                                                                                                                  refine z_iconst (pc := 934) d_LW_refuses_934 ki_m1 ?_
                                                                                                                  refine z_iload_n (pc := 935) d_LW_refuses_935 rfl 1 rfl ?_
                                                                                                                  refine z_bipush (pc := 936) d_LW_refuses_936 kb_9 ?_
                                                                                                                  refine z_iremK (pc := 938) d_LW_refuses_938 (by decide) ?_
                                                                                                                  refine z_isub (pc := 939) d_LW_refuses_939 ?_
                                                                                                                  refine z_iconst (pc := 940) d_LW_refuses_940 ki_0 ?_
                                                                                                                  refine z_iconst (pc := 941) d_LW_refuses_941 ki_0 ?_
                                                                                                                  refine z_callYA (pc := 942) (kc2 := 7) (ks2 := 42) [.ref r0, .int (16 : Int32), .int ((-1 : Int32) - (zirem x1 (9 : Int32))), .int (0 : Int32), .int (0 : Int32)] lkS_LW_156 (c_LW_call (m172, w) D171 r0 (16 : Int32) ((-1 : Int32) - (zirem x1 (9 : Int32))) (0 : Int32) (0 : Int32)) (by decide) (by omega) (by omega) rfl rfl (Nat.le_of_ble_eq_true rfl) d_LW_refuses_942 (fun v173 D174 m175 => ?_)
                                                                                                                  refine z_ldc (pc := 945) w_k_LW_33 d_LW_refuses_945 ?_
                                                                                                                  refine z_icmp_ne (pc := 947) (tgt := 999) d_LW_refuses_947 (by decide) ?_ ?_
                                                                                                                  · refine z_aload_n (pc := 950) d_LW_refuses_950 rfl 0 rfl ?_
                                                                                                                    refine z_iconst (pc := 951) d_LW_refuses_951 ki_0 ?_
                                                                                                                    refine z_lconst (pc := 952) d_LW_refuses_952 (v := 0) rfl ?_
                                                                                                                    refine z_callYH (pc := 953) (kc2 := 6) (ks2 := 36) [.ref r0, .int (0 : Int32), .long (0 : Int64)] lkH_LW_175 (c_LW_doScript (m175, w) D174 r0 (0 : Int32) (0 : Int64)) (by decide) (by omega) (by omega) rfl rfl (Nat.le_of_ble_eq_true rfl) d_LW_refuses_953 (fun v176 D177 m178 => ?_)
                                                                                                                    refine z_ldc (pc := 956) w_k_LW_15 d_LW_refuses_956 ?_
                                                                                                                    refine z_icmp_ne (pc := 958) (tgt := 999) d_LW_refuses_958 (by decide) ?_ ?_
                                                                                                                    · refine z_aload_n (pc := 961) d_LW_refuses_961 rfl 0 rfl ?_
                                                                                                                      refine z_iconst (pc := 962) d_LW_refuses_962 ki_1 ?_
                                                                                                                      refine z_ldc2 (pc := 963) w_k_LW_179 d_LW_refuses_963 ?_
                                                                                                                      refine z_iload_n (pc := 966) d_LW_refuses_966 rfl 1 rfl ?_
                                                                                                                      refine z_i2l (pc := 967) d_LW_refuses_967 ?_
                                                                                                                      refine z_ladd (pc := 968) d_LW_refuses_968 ?_
                                                                                                                      refine z_callYH (pc := 969) (kc2 := 5) (ks2 := 30) [.ref r0, .int (1 : Int32), .long ((100000 : Int64) + x1.toInt64)] lkH_LW_175 (c_LW_doScript (m178, w) D177 r0 (1 : Int32) ((100000 : Int64) + x1.toInt64)) (by decide) (by omega) (by omega) rfl rfl (Nat.le_of_ble_eq_true rfl) d_LW_refuses_969 (fun v179 D180 m181 => ?_)
                                                                                                                      refine z_ldc (pc := 972) w_k_LW_15 d_LW_refuses_972 ?_
                                                                                                                      refine z_icmp_ne (pc := 974) (tgt := 999) d_LW_refuses_974 (by decide) ?_ ?_
                                                                                                                      · refine z_aload_n (pc := 977) d_LW_refuses_977 rfl 0 rfl ?_
                                                                                                                        refine z_iload_n (pc := 978) d_LW_refuses_978 rfl 1 rfl ?_
                                                                                                                        refine z_i2l (pc := 979) d_LW_refuses_979 ?_
                                                                                                                        refine z_bipush (pc := 980) d_LW_refuses_980 kb_61 ?_
                                                                                                                        refine z_iload_n (pc := 982) d_LW_refuses_982 rfl 1 rfl ?_
                                                                                                                        refine z_bipush (pc := 983) d_LW_refuses_983 kb_9 ?_
                                                                                                                        refine z_iremK (pc := 985) d_LW_refuses_985 (by decide) ?_
                                                                                                                        refine z_iadd (pc := 986) d_LW_refuses_986 ?_
                                                                                                                        refine z_callYH (pc := 987) (kc2 := 4) (ks2 := 24) [.ref r0, .long x1.toInt64, .int ((61 : Int32) + (zirem x1 (9 : Int32)))] lkH_LW_181 (c_LW_doSimulate (m181, w) D180 r0 x1.toInt64 ((61 : Int32) + (zirem x1 (9 : Int32)))) (by decide) (by omega) (by omega) rfl rfl (Nat.le_of_ble_eq_true rfl) d_LW_refuses_987 (fun v182 D183 m184 => ?_)
                                                                                                                        refine z_ldc (pc := 990) w_k_LW_15 d_LW_refuses_990 ?_
                                                                                                                        refine z_icmp_ne (pc := 992) (tgt := 999) d_LW_refuses_992 (by decide) ?_ ?_
                                                                                                                        · refine z_iconst (pc := 995) d_LW_refuses_995 ki_1 ?_
                                                                                                                          refine z_goto (pc := 996) (tgt := 1000) d_LW_refuses_996 (by decide) ?_
                                                                                                                          refine z_kc (by omega) (by omega) (z_sub [0, 1, 2, 3, 4] rfl (h1000 x2 x3 x4 (1 : Int32) m184 D183))
                                                                                                                        · refine z_kc (by omega) (by omega) (z_sub [0, 1, 2, 3, 4] rfl (h999 x2 x3 x4 m184 D183))
                                                                                                                      · refine z_kc (by omega) (by omega) (z_sub [0, 1, 2, 3, 4] rfl (h999 x2 x3 x4 m181 D180))
                                                                                                                    · refine z_kc (by omega) (by omega) (z_sub [0, 1, 2, 3, 4] rfl (h999 x2 x3 x4 m178 D177))
                                                                                                                  · refine z_kc (by omega) (by omega) (z_sub [0, 1, 2, 3, 4] rfl (h999 x2 x3 x4 m175 D174))
                                                                                                                · refine z_kc (by omega) (by omega) (z_sub [0, 1, 2, 3, 4] rfl (h999 x2 x3 x4 m172 D171))
                                                                                                              · refine z_kc (by omega) (by omega) (z_sub [0, 1, 2, 3, 4] rfl (h999 x2 x3 x4 m169 D168))
                                                                                                            · refine z_aload_n (pc := 882) d_LW_refuses_882 rfl 0 rfl ?_
                                                                                                              refine z_bipush (pc := 883) d_LW_refuses_883 kb_14 ?_
                                                                                                              refine z_iload_n (pc := 885) d_LW_refuses_885 rfl 1 rfl ?_
                                                                                                              refine z_iconst (pc := 886) d_LW_refuses_886 ki_2 ?_
                                                                                                              refine z_iremK (pc := 887) d_LW_refuses_887 (by decide) ?_
                                                                                                              refine z_if_ne (pc := 888) (tgt := 895) d_LW_refuses_888 (by decide) ?_ ?_
                                                                                                              · refine z_iconst (pc := 891) d_LW_refuses_891 ki_0 ?_
                                                                                                                refine z_goto (pc := 892) (tgt := 902) d_LW_refuses_892 (by decide) ?_
                                                                                                                refine z_kc (by omega) (by omega) (z_sub [0, 1, 2, 3, 4] rfl (h902 x2 x3 x4 r0 (14 : Int32) (0 : Int32) m164 D163))
                                                                                                              · refine z_bipush (pc := 895) d_LW_refuses_895 kb_100 ?_
                                                                                                                refine z_iload_n (pc := 897) d_LW_refuses_897 rfl 1 rfl ?_
                                                                                                                refine z_bipush (pc := 898) d_LW_refuses_898 kb_9 ?_
                                                                                                                refine z_iremK (pc := 900) d_LW_refuses_900 (by decide) ?_
                                                                                                                refine z_iadd (pc := 901) d_LW_refuses_901 ?_
                                                                                                                refine z_kc (by omega) (by omega) (z_sub [0, 1, 2, 3, 4] rfl (h902 x2 x3 x4 r0 (14 : Int32) ((100 : Int32) + (zirem x1 (9 : Int32))) m164 D163))
                                                                                                          · refine z_kc (by omega) (by omega) (z_sub [0, 1, 2, 3, 4] rfl (h999 x2 x3 x4 m164 D163))
                                                                                                        · refine z_kc (by omega) (by omega) (z_sub [0, 1, 2, 3, 4] rfl (h999 x2 x3 x4 m161 D160))
                                                                                                      · refine z_kc (by omega) (by omega) (z_sub [0, 1, 2, 3, 4] rfl (h999 x2 x3 x4 m158 D157))
                                                                                                    · refine z_kc (by omega) (by omega) (z_sub [0, 1, 2, 3, 4] rfl (h999 x2 x3 x4 m155 D154))
                                                                                                  · refine z_aload_n (pc := 802) d_LW_refuses_802 rfl 0 rfl ?_
                                                                                                    refine z_bipush (pc := 803) d_LW_refuses_803 kb_12 ?_
                                                                                                    refine z_iconst (pc := 805) d_LW_refuses_805 ki_0 ?_
                                                                                                    refine z_iload_n (pc := 806) d_LW_refuses_806 rfl 1 rfl ?_
                                                                                                    refine z_iconst (pc := 807) d_LW_refuses_807 ki_2 ?_
                                                                                                    refine z_iremK (pc := 808) d_LW_refuses_808 (by decide) ?_
                                                                                                    refine z_if_ne (pc := 809) (tgt := 816) d_LW_refuses_809 (by decide) ?_ ?_
                                                                                                    · refine z_iconst (pc := 812) d_LW_refuses_812 ki_m1 ?_
                                                                                                      refine z_goto (pc := 813) (tgt := 824) d_LW_refuses_813 (by decide) ?_
                                                                                                      refine z_kc (by omega) (by omega) (z_sub [0, 1, 2, 3, 4, 5, 6] rfl (h824 x2 x3 x4 x6 x7 r0 (12 : Int32) (0 : Int32) (-1 : Int32) m150 D149))
                                                                                                    · refine z_sipush (pc := 816) d_LW_refuses_816 ks_1001 ?_
                                                                                                      refine z_iload_n (pc := 819) d_LW_refuses_819 rfl 1 rfl ?_
                                                                                                      refine z_bipush (pc := 820) d_LW_refuses_820 kb_9 ?_
                                                                                                      refine z_iremK (pc := 822) d_LW_refuses_822 (by decide) ?_
                                                                                                      refine z_iadd (pc := 823) d_LW_refuses_823 ?_
                                                                                                      refine z_kc (by omega) (by omega) (z_sub [0, 1, 2, 3, 4, 5, 6] rfl (h824 x2 x3 x4 x6 x7 r0 (12 : Int32) (0 : Int32) ((1001 : Int32) + (zirem x1 (9 : Int32))) m150 D149))
                                                                                                · refine z_kc (by omega) (by omega) (z_sub [0, 1, 2, 3, 4] rfl (h999 x2 x3 x4 m150 D149))
                                                                                              · refine z_kc (by omega) (by omega) (z_sub [0, 1, 2, 3, 4] rfl (h999 x2 x3 x4 m147 D146))
                                                                                            · refine z_kc (by omega) (by omega) (z_sub [0, 1, 2, 3, 4] rfl (h999 x2 x3 x4 m144 D143))
                                                                                          · refine z_aload_n (pc := 735) d_LW_refuses_735 rfl 0 rfl ?_
                                                                                            refine z_bipush (pc := 736) d_LW_refuses_736 kb_10 ?_
                                                                                            refine z_iconst (pc := 738) d_LW_refuses_738 ki_1 ?_
                                                                                            refine z_iload_n (pc := 739) d_LW_refuses_739 rfl 1 rfl ?_
                                                                                            refine z_iconst (pc := 740) d_LW_refuses_740 ki_2 ?_
                                                                                            refine z_iremK (pc := 741) d_LW_refuses_741 (by decide) ?_
                                                                                            refine z_if_ne (pc := 742) (tgt := 749) d_LW_refuses_742 (by decide) ?_ ?_
                                                                                            · refine z_iconst (pc := 745) d_LW_refuses_745 ki_0 ?_
                                                                                              refine z_goto (pc := 746) (tgt := 756) d_LW_refuses_746 (by decide) ?_
                                                                                              refine z_kc (by omega) (by omega) (z_sub [0, 1, 2, 3, 4, 5, 6] rfl (h756 x2 x3 x4 x6 x7 r0 (10 : Int32) (1 : Int32) (0 : Int32) m139 D138))
                                                                                            · refine z_bipush (pc := 749) d_LW_refuses_749 kb_100 ?_
                                                                                              refine z_iload_n (pc := 751) d_LW_refuses_751 rfl 1 rfl ?_
                                                                                              refine z_bipush (pc := 752) d_LW_refuses_752 kb_9 ?_
                                                                                              refine z_iremK (pc := 754) d_LW_refuses_754 (by decide) ?_
                                                                                              refine z_iadd (pc := 755) d_LW_refuses_755 ?_
                                                                                              refine z_kc (by omega) (by omega) (z_sub [0, 1, 2, 3, 4, 5, 6] rfl (h756 x2 x3 x4 x6 x7 r0 (10 : Int32) (1 : Int32) ((100 : Int32) + (zirem x1 (9 : Int32))) m139 D138))
                                                                                        · refine z_kc (by omega) (by omega) (z_sub [0, 1, 2, 3, 4] rfl (h999 x2 x3 x4 m139 D138))
                                                                                      · refine z_aload_n (pc := 705) d_LW_refuses_705 rfl 0 rfl ?_
                                                                                        refine z_bipush (pc := 706) d_LW_refuses_706 kb_10 ?_
                                                                                        refine z_iconst (pc := 708) d_LW_refuses_708 ki_0 ?_
                                                                                        refine z_iload_n (pc := 709) d_LW_refuses_709 rfl 1 rfl ?_
                                                                                        refine z_iconst (pc := 710) d_LW_refuses_710 ki_2 ?_
                                                                                        refine z_iremK (pc := 711) d_LW_refuses_711 (by decide) ?_
                                                                                        refine z_if_ne (pc := 712) (tgt := 719) d_LW_refuses_712 (by decide) ?_ ?_
                                                                                        · refine z_iconst (pc := 715) d_LW_refuses_715 ki_0 ?_
                                                                                          refine z_goto (pc := 716) (tgt := 726) d_LW_refuses_716 (by decide) ?_
                                                                                          refine z_kc (by omega) (by omega) (z_sub [0, 1, 2, 3, 4, 5, 6] rfl (h726 x2 x3 x4 x6 x7 r0 (10 : Int32) (0 : Int32) (0 : Int32) m134 D133))
                                                                                        · refine z_bipush (pc := 719) d_LW_refuses_719 kb_10 ?_
                                                                                          refine z_iload_n (pc := 721) d_LW_refuses_721 rfl 1 rfl ?_
                                                                                          refine z_bipush (pc := 722) d_LW_refuses_722 kb_9 ?_
                                                                                          refine z_iremK (pc := 724) d_LW_refuses_724 (by decide) ?_
                                                                                          refine z_iadd (pc := 725) d_LW_refuses_725 ?_
                                                                                          refine z_kc (by omega) (by omega) (z_sub [0, 1, 2, 3, 4, 5, 6] rfl (h726 x2 x3 x4 x6 x7 r0 (10 : Int32) (0 : Int32) ((10 : Int32) + (zirem x1 (9 : Int32))) m134 D133))
                                                                                    · refine z_kc (by omega) (by omega) (z_sub [0, 1, 2, 3, 4] rfl (h999 x2 x3 x4 m134 D133))
                                                                                  · refine z_aload_n (pc := 675) d_LW_refuses_675 rfl 0 rfl ?_
                                                                                    refine z_bipush (pc := 676) d_LW_refuses_676 kb_9 ?_
                                                                                    refine z_iload_n (pc := 678) d_LW_refuses_678 rfl 1 rfl ?_
                                                                                    refine z_iconst (pc := 679) d_LW_refuses_679 ki_2 ?_
                                                                                    refine z_iremK (pc := 680) d_LW_refuses_680 (by decide) ?_
                                                                                    refine z_if_ne (pc := 681) (tgt := 688) d_LW_refuses_681 (by decide) ?_ ?_
                                                                                    · refine z_iconst (pc := 684) d_LW_refuses_684 ki_0 ?_
                                                                                      refine z_goto (pc := 685) (tgt := 695) d_LW_refuses_685 (by decide) ?_
                                                                                      refine z_kc (by omega) (by omega) (z_sub [0, 1, 2, 3, 4, 5, 6] rfl (h695 x2 x3 x4 x6 x7 r0 (9 : Int32) (0 : Int32) m129 D128))
                                                                                    · refine z_bipush (pc := 688) d_LW_refuses_688 kb_100 ?_
                                                                                      refine z_iload_n (pc := 690) d_LW_refuses_690 rfl 1 rfl ?_
                                                                                      refine z_bipush (pc := 691) d_LW_refuses_691 kb_9 ?_
                                                                                      refine z_iremK (pc := 693) d_LW_refuses_693 (by decide) ?_
                                                                                      refine z_iadd (pc := 694) d_LW_refuses_694 ?_
                                                                                      refine z_kc (by omega) (by omega) (z_sub [0, 1, 2, 3, 4, 5, 6] rfl (h695 x2 x3 x4 x6 x7 r0 (9 : Int32) ((100 : Int32) + (zirem x1 (9 : Int32))) m129 D128))
                                                                                · refine z_kc (by omega) (by omega) (z_sub [0, 1, 2, 3, 4] rfl (h999 x2 x3 x4 m129 D128))
                                                                              · refine z_kc (by omega) (by omega) (z_sub [0, 1, 2, 3, 4] rfl (h999 x2 x3 x4 m126 D125))
                                                                            · refine z_kc (by omega) (by omega) (z_sub [0, 1, 2, 3, 4] rfl (h999 x2 x3 x4 m123 D122))
                                                                          · refine z_kc (by omega) (by omega) (z_sub [0, 1, 2, 3, 4] rfl (h999 x2 x3 x4 m120 D119))
                                                                        · refine z_kc (by omega) (by omega) (z_sub [0, 1, 2, 3, 4] rfl (h999 x2 x3 x4 m117 D116))
                                                                      · refine z_aload_n (pc := 594) d_LW_refuses_594 rfl 0 rfl ?_
                                                                        refine z_iload_n (pc := 595) d_LW_refuses_595 rfl 1 rfl ?_
                                                                        refine z_iconst (pc := 596) d_LW_refuses_596 ki_2 ?_
                                                                        refine z_iremK (pc := 597) d_LW_refuses_597 (by decide) ?_
                                                                        refine z_if_ne (pc := 598) (tgt := 605) d_LW_refuses_598 (by decide) ?_ ?_
                                                                        · refine z_iconst (pc := 601) d_LW_refuses_601 ki_1 ?_
                                                                          refine z_goto (pc := 602) (tgt := 606) d_LW_refuses_602 (by decide) ?_
                                                                          refine z_kc (by omega) (by omega) (z_sub [0, 1, 2, 3, 4, 5, 6, 7, 8] rfl (h606 x2 x3 x4 x6 x7 x9 x10 r0 (1 : Int32) m112 D111))
                                                                        · refine z_iconst (pc := 605) d_LW_refuses_605 ki_0 ?_
                                                                          refine z_kc (by omega) (by omega) (z_sub [0, 1, 2, 3, 4, 5, 6, 7, 8] rfl (h606 x2 x3 x4 x6 x7 x9 x10 r0 (0 : Int32) m112 D111))
                                                                    · refine z_kc (by omega) (by omega) (z_sub [0, 1, 2, 3, 4] rfl (h999 x2 x3 x4 m112 D111))
                                                                  · refine z_kc (by omega) (by omega) (z_sub [0, 1, 2, 3, 4] rfl (h999 x2 x3 x4 m109 D108))
                                                                · refine z_kc (by omega) (by omega) (z_sub [0, 1, 2, 3, 4] rfl (h999 x2 x3 x4 m106 D105))
                                                              · refine z_kc (by omega) (by omega) (z_sub [0, 1, 2, 3, 4] rfl (h999 x2 x3 x4 m103 D102))
                                                            · refine z_kc (by omega) (by omega) (z_sub [0, 1, 2, 3, 4] rfl (h999 x2 x3 x4 m100 D99))
                                                          · refine z_aload_n (pc := 508) d_LW_refuses_508 rfl 0 rfl ?_
                                                            refine z_iconst (pc := 509) d_LW_refuses_509 ki_0 ?_
                                                            refine z_iconst (pc := 510) d_LW_refuses_510 ki_0 ?_
                                                            refine z_iconst (pc := 511) d_LW_refuses_511 ki_1 ?_
                                                            refine z_iconst (pc := 512) d_LW_refuses_512 ki_1 ?_
                                                            refine z_iload_n (pc := 513) d_LW_refuses_513 rfl 1 rfl ?_
                                                            refine z_iconst (pc := 514) d_LW_refuses_514 ki_2 ?_
                                                            refine z_iremK (pc := 515) d_LW_refuses_515 (by decide) ?_
                                                            refine z_if_ne (pc := 516) (tgt := 523) d_LW_refuses_516 (by decide) ?_ ?_
                                                            · refine z_iconst (pc := 519) d_LW_refuses_519 ki_0 ?_
                                                              refine z_goto (pc := 520) (tgt := 530) d_LW_refuses_520 (by decide) ?_
                                                              refine z_kc (by omega) (by omega) (z_sub [0, 1, 2, 3, 4, 5, 6, 7, 8] rfl (h530 x2 x3 x4 x6 x7 x9 x10 r0 (0 : Int32) (0 : Int32) (1 : Int32) (1 : Int32) (0 : Int32) m95 D94))
                                                            · refine z_bipush (pc := 523) d_LW_refuses_523 kb_21 ?_
                                                              refine z_iload_n (pc := 525) d_LW_refuses_525 rfl 1 rfl ?_
                                                              refine z_bipush (pc := 526) d_LW_refuses_526 kb_9 ?_
                                                              refine z_iremK (pc := 528) d_LW_refuses_528 (by decide) ?_
                                                              refine z_iadd (pc := 529) d_LW_refuses_529 ?_
                                                              refine z_kc (by omega) (by omega) (z_sub [0, 1, 2, 3, 4, 5, 6, 7, 8] rfl (h530 x2 x3 x4 x6 x7 x9 x10 r0 (0 : Int32) (0 : Int32) (1 : Int32) (1 : Int32) ((21 : Int32) + (zirem x1 (9 : Int32))) m95 D94))
                                                        · refine z_kc (by omega) (by omega) (z_sub [0, 1, 2, 3, 4] rfl (h999 x2 x3 x4 m95 D94))
                                                      · refine z_aload_n (pc := 478) d_LW_refuses_478 rfl 0 rfl ?_
                                                        refine z_iconst (pc := 479) d_LW_refuses_479 ki_0 ?_
                                                        refine z_iconst (pc := 480) d_LW_refuses_480 ki_0 ?_
                                                        refine z_iconst (pc := 481) d_LW_refuses_481 ki_1 ?_
                                                        refine z_iload_n (pc := 482) d_LW_refuses_482 rfl 1 rfl ?_
                                                        refine z_iconst (pc := 483) d_LW_refuses_483 ki_2 ?_
                                                        refine z_iremK (pc := 484) d_LW_refuses_484 (by decide) ?_
                                                        refine z_if_ne (pc := 485) (tgt := 493) d_LW_refuses_485 (by decide) ?_ ?_
                                                        · refine z_bipush (pc := 488) d_LW_refuses_488 kb_m4 ?_
                                                          refine z_goto (pc := 490) (tgt := 499) d_LW_refuses_490 (by decide) ?_
                                                          refine z_kc (by omega) (by omega) (z_sub [0, 1, 2, 3, 4, 5, 6, 7, 8] rfl (h499 x2 x3 x4 x6 x7 x9 x10 r0 (0 : Int32) (0 : Int32) (1 : Int32) (-4 : Int32) m90 D89))
                                                        · refine z_iconst (pc := 493) d_LW_refuses_493 ki_4 ?_
                                                          refine z_iload_n (pc := 494) d_LW_refuses_494 rfl 1 rfl ?_
                                                          refine z_bipush (pc := 495) d_LW_refuses_495 kb_9 ?_
                                                          refine z_iremK (pc := 497) d_LW_refuses_497 (by decide) ?_
                                                          refine z_iadd (pc := 498) d_LW_refuses_498 ?_
                                                          refine z_kc (by omega) (by omega) (z_sub [0, 1, 2, 3, 4, 5, 6, 7, 8] rfl (h499 x2 x3 x4 x6 x7 x9 x10 r0 (0 : Int32) (0 : Int32) (1 : Int32) ((4 : Int32) + (zirem x1 (9 : Int32))) m90 D89))
                                                    · refine z_kc (by omega) (by omega) (z_sub [0, 1, 2, 3, 4] rfl (h999 x2 x3 x4 m90 D89))
                                                  · refine z_aload_n (pc := 448) d_LW_refuses_448 rfl 0 rfl ?_
                                                    refine z_iconst (pc := 449) d_LW_refuses_449 ki_0 ?_
                                                    refine z_iconst (pc := 450) d_LW_refuses_450 ki_0 ?_
                                                    refine z_iload_n (pc := 451) d_LW_refuses_451 rfl 1 rfl ?_
                                                    refine z_iconst (pc := 452) d_LW_refuses_452 ki_2 ?_
                                                    refine z_iremK (pc := 453) d_LW_refuses_453 (by decide) ?_
                                                    refine z_if_ne (pc := 454) (tgt := 461) d_LW_refuses_454 (by decide) ?_ ?_
                                                    · refine z_iconst (pc := 457) d_LW_refuses_457 ki_0 ?_
                                                      refine z_goto (pc := 458) (tgt := 468) d_LW_refuses_458 (by decide) ?_
                                                      refine z_kc (by omega) (by omega) (z_sub [0, 1, 2, 3, 4, 5, 6, 8, 9] rfl (h468 x2 x3 x4 x6 x7 x9 x10 r0 (0 : Int32) (0 : Int32) (0 : Int32) m85 D84))
                                                    · refine z_bipush (pc := 461) d_LW_refuses_461 kb_6 ?_
                                                      refine z_iload_n (pc := 463) d_LW_refuses_463 rfl 1 rfl ?_
                                                      refine z_bipush (pc := 464) d_LW_refuses_464 kb_9 ?_
                                                      refine z_iremK (pc := 466) d_LW_refuses_466 (by decide) ?_
                                                      refine z_iadd (pc := 467) d_LW_refuses_467 ?_
                                                      refine z_kc (by omega) (by omega) (z_sub [0, 1, 2, 3, 4, 5, 6, 8, 9] rfl (h468 x2 x3 x4 x6 x7 x9 x10 r0 (0 : Int32) (0 : Int32) ((6 : Int32) + (zirem x1 (9 : Int32))) m85 D84))
                                                · refine z_kc (by omega) (by omega) (z_sub [0, 1, 2, 3, 4] rfl (h999 x2 x3 x4 m85 D84))
                                              · refine z_kc (by omega) (by omega) (z_sub [0, 1, 2, 3, 4] rfl (h999 x2 x3 x4 m82 D81))
                                            · refine z_kc (by omega) (by omega) (z_sub [0, 1, 2, 3, 4] rfl (h999 x2 x3 x4 m79 D78))
                                          · refine z_kc (by omega) (by omega) (z_sub [0, 1, 2, 3, 4] rfl (h999 x2 x3 x4 m76 D75))
                                        · refine z_kc (by omega) (by omega) (z_sub [0, 1, 2, 3, 4] rfl (h999 x2 x3 x4 m73 D72))
                                      · refine z_iload (pc := 341) d_LW_refuses_341 5 rfl ?_
                                        refine z_if_eq (pc := 343) (tgt := 366) d_LW_refuses_343 (by decide) ?_ ?_
                                        · refine z_kc (by omega) (by omega) (z_sub [0, 1, 2, 3, 4, 6, 7, 8, 9, 10] rfl (h366 x2 x3 x4 x6 x7 x8 x9 x10 m68 D67))
                                        · refine z_aload_n (pc := 346) d_LW_refuses_346 rfl 0 rfl ?_
                                          refine z_bipush (pc := 347) d_LW_refuses_347 kb_6 ?_
                                          refine z_iconst (pc := 349) d_LW_refuses_349 ki_0 ?_
                                          refine z_bipush (pc := 350) d_LW_refuses_350 kb_6 ?_
                                          refine z_iload_n (pc := 352) d_LW_refuses_352 rfl 1 rfl ?_
                                          refine z_bipush (pc := 353) d_LW_refuses_353 kb_9 ?_
                                          refine z_iremK (pc := 355) d_LW_refuses_355 (by decide) ?_
                                          refine z_iadd (pc := 356) d_LW_refuses_356 ?_
                                          refine z_iconst (pc := 357) d_LW_refuses_357 ki_0 ?_
                                          refine z_callYA (pc := 358) (kc2 := 36) (ks2 := 216) [.ref r0, .int (6 : Int32), .int (0 : Int32), .int ((6 : Int32) + (zirem x1 (9 : Int32))), .int (0 : Int32)] lkS_LW_156 (c_LW_call (m68, w) D67 r0 (6 : Int32) (0 : Int32) ((6 : Int32) + (zirem x1 (9 : Int32))) (0 : Int32)) (by decide) (by omega) (by omega) rfl rfl (Nat.le_of_ble_eq_true rfl) d_LW_refuses_358 (fun v185 D186 m187 => ?_)
                                          refine z_ldc (pc := 361) w_k_LW_15 d_LW_refuses_361 ?_
                                          refine z_icmp_ne (pc := 363) (tgt := 999) d_LW_refuses_363 (by decide) ?_ ?_
                                          · refine z_kc (by omega) (by omega) (z_sub [0, 1, 2, 3, 4, 6, 7, 8, 9, 10] rfl (h366 x2 x3 x4 x6 x7 x8 x9 x10 m187 D186))
                                          · refine z_kc (by omega) (by omega) (z_sub [0, 1, 2, 3, 4] rfl (h999 x2 x3 x4 m187 D186))
                                    · refine z_kc (by omega) (by omega) (z_sub [0, 1, 2, 3, 4] rfl (h999 x2 x3 x4 m68 D67))
                                  · refine z_aload_n (pc := 310) d_LW_refuses_310 rfl 0 rfl ?_
                                    refine z_bipush (pc := 311) d_LW_refuses_311 kb_6 ?_
                                    refine z_iload_n (pc := 313) d_LW_refuses_313 rfl 1 rfl ?_
                                    refine z_iconst (pc := 314) d_LW_refuses_314 ki_2 ?_
                                    refine z_iremK (pc := 315) d_LW_refuses_315 (by decide) ?_
                                    refine z_if_ne (pc := 316) (tgt := 323) d_LW_refuses_316 (by decide) ?_ ?_
                                    · refine z_iconst (pc := 319) d_LW_refuses_319 ki_m1 ?_
                                      refine z_goto (pc := 320) (tgt := 330) d_LW_refuses_320 (by decide) ?_
                                      refine z_kc (by omega) (by omega) (z_sub [0, 1, 2, 3, 4, 5, 6, 7, 8, 9, 10] rfl (h330 x2 x3 x4 x5 x6 x7 x8 x9 x10 r0 (6 : Int32) (-1 : Int32) m63 D62))
                                    · refine z_iload (pc := 323) d_LW_refuses_323 5 rfl ?_
                                      refine z_iload_n (pc := 325) d_LW_refuses_325 rfl 1 rfl ?_
                                      refine z_bipush (pc := 326) d_LW_refuses_326 kb_9 ?_
                                      refine z_iremK (pc := 328) d_LW_refuses_328 (by decide) ?_
                                      refine z_iadd (pc := 329) d_LW_refuses_329 ?_
                                      refine z_kc (by omega) (by omega) (z_sub [0, 1, 2, 3, 4, 5, 6, 7, 8, 9, 10] rfl (h330 x2 x3 x4 x5 x6 x7 x8 x9 x10 r0 (6 : Int32) (x5 + (zirem x1 (9 : Int32))) m63 D62))
                                · refine z_kc (by omega) (by omega) (z_sub [0, 1, 2, 3, 4] rfl (h999 x2 x3 x4 m63 D62))
                              · refine z_aload_n (pc := 280) d_LW_refuses_280 rfl 0 rfl ?_
                                refine z_iconst (pc := 281) d_LW_refuses_281 ki_5 ?_
                                refine z_iload_n (pc := 282) d_LW_refuses_282 rfl 1 rfl ?_
                                refine z_iconst (pc := 283) d_LW_refuses_283 ki_2 ?_
                                refine z_iremK (pc := 284) d_LW_refuses_284 (by decide) ?_
                                refine z_if_ne (pc := 285) (tgt := 292) d_LW_refuses_285 (by decide) ?_ ?_
                                · refine z_iconst (pc := 288) d_LW_refuses_288 ki_m1 ?_
                                  refine z_goto (pc := 289) (tgt := 299) d_LW_refuses_289 (by decide) ?_
                                  refine z_kc (by omega) (by omega) (z_sub [0, 1, 2, 3, 4, 5, 6, 7, 8, 9, 10] rfl (h299 x2 x3 x4 x5 x6 x7 x8 x9 x10 r0 (5 : Int32) (-1 : Int32) m58 D57))
                                · refine z_iload (pc := 292) d_LW_refuses_292 4 rfl ?_
                                  refine z_iload_n (pc := 294) d_LW_refuses_294 rfl 1 rfl ?_
                                  refine z_bipush (pc := 295) d_LW_refuses_295 kb_9 ?_
                                  refine z_iremK (pc := 297) d_LW_refuses_297 (by decide) ?_
                                  refine z_iadd (pc := 298) d_LW_refuses_298 ?_
                                  refine z_kc (by omega) (by omega) (z_sub [0, 1, 2, 3, 4, 5, 6, 7, 8, 9, 10] rfl (h299 x2 x3 x4 x5 x6 x7 x8 x9 x10 r0 (5 : Int32) (x4 + (zirem x1 (9 : Int32))) m58 D57))
                            · refine z_kc (by omega) (by omega) (z_sub [0, 1, 2, 3, 4] rfl (h999 x2 x3 x4 m58 D57))
                          · refine z_kc (by omega) (by omega) (z_sub [0, 1, 2, 3, 4] rfl (h999 x2 x3 x4 m55 D54))
                        · refine z_kc (by omega) (by omega) (z_sub [0, 1, 2, 3, 4] rfl (h999 x2 x3 x4 m52 D51))
                      · refine z_kc (by omega) (by omega) (z_sub [0, 1, 2, 3, 4] rfl (h999 x2 x3 x4 m49 D48))
                    · refine z_kc (by omega) (by omega) (z_sub [0, 1, 2, 3, 4] rfl (h999 x2 x3 x4 m46 D45))
                  · refine z_kc (by omega) (by omega) (z_sub [0, 1, 2, 3, 4] rfl (h999 x2 x3 x4 m43 D42))
            · refine z_istore (pc := 156) d_LW_refuses_156 (by decide) (lv' := [(10, .int s0), (0, .ref r0), (1, .int x1), (2, .int x2), (3, .int x3), (4, .int x4), (5, .int x5), (6, .int x6), (7, .int x7), (8, .int x8), (9, .int x9)]) rfl ?_
              refine z_aload_n (pc := 158) d_LW_refuses_158 rfl 1 rfl ?_
              refine z_iconst (pc := 159) d_LW_refuses_159 ki_0 ?_
              refine z_iload_n (pc := 160) d_LW_refuses_160 rfl 2 rfl ?_
              refine z_iconst (pc := 161) d_LW_refuses_161 ki_2 ?_
              refine z_iremK (pc := 162) d_LW_refuses_162 (by decide) ?_
              refine z_if_ne (pc := 163) (tgt := 175) d_LW_refuses_163 (by decide) ?_ ?_
              · refine z_iconst (pc := 166) d_LW_refuses_166 ki_m1 ?_
                refine z_iload_n (pc := 167) d_LW_refuses_167 rfl 2 rfl ?_
                refine z_bipush (pc := 168) d_LW_refuses_168 kb_9 ?_
                refine z_iremK (pc := 170) d_LW_refuses_170 (by decide) ?_
                refine z_isub (pc := 171) d_LW_refuses_171 ?_
                refine z_goto (pc := 172) (tgt := 183) d_LW_refuses_172 (by decide) ?_
                refine z_kc (by omega) (by omega) (z_sub [1, 2, 3, 4, 5, 6, 7, 8, 9, 10, 0] rfl (h183 x2 x3 x4 x5 x6 x7 x8 x9 s0 r0 (0 : Int32) ((-1 : Int32) - (zirem x1 (9 : Int32))) m10 D9))
              · refine z_sipush (pc := 175) d_LW_refuses_175 ks_256 ?_
                refine z_iload_n (pc := 178) d_LW_refuses_178 rfl 2 rfl ?_
                refine z_bipush (pc := 179) d_LW_refuses_179 kb_9 ?_
                refine z_iremK (pc := 181) d_LW_refuses_181 (by decide) ?_
                refine z_iadd (pc := 182) d_LW_refuses_182 ?_
                refine z_kc (by omega) (by omega) (z_sub [1, 2, 3, 4, 5, 6, 7, 8, 9, 10, 0] rfl (h183 x2 x3 x4 x5 x6 x7 x8 x9 s0 r0 (0 : Int32) ((256 : Int32) + (zirem x1 (9 : Int32))) m10 D9))
          · refine z_istore (pc := 132) d_LW_refuses_132 (by decide) (lv' := [(9, .int s0), (0, .ref r0), (1, .int x1), (2, .int x2), (3, .int x3), (4, .int x4), (5, .int x5), (6, .int x6), (7, .int x7), (8, .int x8)]) rfl ?_
            refine z_iload_n (pc := 134) d_LW_refuses_134 rfl 2 rfl ?_
            refine z_iconst (pc := 135) d_LW_refuses_135 ki_2 ?_
            refine z_iremK (pc := 136) d_LW_refuses_136 (by decide) ?_
            refine z_if_ne (pc := 137) (tgt := 150) d_LW_refuses_137 (by decide) ?_ ?_
            · refine z_bipush (pc := 140) d_LW_refuses_140 kb_m3 ?_
              refine z_iload_n (pc := 142) d_LW_refuses_142 rfl 2 rfl ?_
              refine z_bipush (pc := 143) d_LW_refuses_143 kb_9 ?_
              refine z_iremK (pc := 145) d_LW_refuses_145 (by decide) ?_
              refine z_isub (pc := 146) d_LW_refuses_146 ?_
              refine z_goto (pc := 147) (tgt := 156) d_LW_refuses_147 (by decide) ?_
              refine z_kc (by omega) (by omega) (z_sub [1, 2, 3, 4, 5, 6, 7, 8, 9, 0] rfl (h156 x2 x3 x4 x5 x6 x7 x8 s0 ((-3 : Int32) - (zirem x1 (9 : Int32))) m8 D7))
            · refine z_iconst (pc := 150) d_LW_refuses_150 ki_3 ?_
              refine z_iload_n (pc := 151) d_LW_refuses_151 rfl 2 rfl ?_
              refine z_bipush (pc := 152) d_LW_refuses_152 kb_9 ?_
              refine z_iremK (pc := 154) d_LW_refuses_154 (by decide) ?_
              refine z_iadd (pc := 155) d_LW_refuses_155 ?_
              refine z_kc (by omega) (by omega) (z_sub [1, 2, 3, 4, 5, 6, 7, 8, 9, 0] rfl (h156 x2 x3 x4 x5 x6 x7 x8 s0 ((3 : Int32) + (zirem x1 (9 : Int32))) m8 D7))
        · refine z_istore (pc := 107) d_LW_refuses_107 (by decide) (lv' := [(8, .int s0), (0, .ref r0), (1, .int x1), (2, .int x2), (3, .int x3), (4, .int x4), (5, .int x5), (6, .int x6), (7, .int x7)]) rfl ?_
          refine z_iload_n (pc := 109) d_LW_refuses_109 rfl 2 rfl ?_
          refine z_iconst (pc := 110) d_LW_refuses_110 ki_2 ?_
          refine z_iremK (pc := 111) d_LW_refuses_111 (by decide) ?_
          refine z_if_ne (pc := 112) (tgt := 125) d_LW_refuses_112 (by decide) ?_ ?_
          · refine z_bipush (pc := 115) d_LW_refuses_115 kb_m41 ?_
            refine z_iload_n (pc := 117) d_LW_refuses_117 rfl 2 rfl ?_
            refine z_bipush (pc := 118) d_LW_refuses_118 kb_9 ?_
            refine z_iremK (pc := 120) d_LW_refuses_120 (by decide) ?_
            refine z_isub (pc := 121) d_LW_refuses_121 ?_
            refine z_goto (pc := 122) (tgt := 132) d_LW_refuses_122 (by decide) ?_
            refine z_kc (by omega) (by omega) (z_sub [1, 2, 3, 4, 5, 6, 7, 8, 0] rfl (h132 x2 x3 x4 x5 x6 x7 s0 ((-41 : Int32) - (zirem x1 (9 : Int32))) m6 D5))
          · refine z_bipush (pc := 125) d_LW_refuses_125 kb_41 ?_
            refine z_iload_n (pc := 127) d_LW_refuses_127 rfl 2 rfl ?_
            refine z_bipush (pc := 128) d_LW_refuses_128 kb_9 ?_
            refine z_iremK (pc := 130) d_LW_refuses_130 (by decide) ?_
            refine z_iadd (pc := 131) d_LW_refuses_131 ?_
            refine z_kc (by omega) (by omega) (z_sub [1, 2, 3, 4, 5, 6, 7, 8, 0] rfl (h132 x2 x3 x4 x5 x6 x7 s0 ((41 : Int32) + (zirem x1 (9 : Int32))) m6 D5))
      · refine z_istore (pc := 82) d_LW_refuses_82 (by decide) (lv' := [(7, .int s0), (0, .ref r0), (1, .int x1), (2, .int x2), (3, .int x3), (4, .int x4), (5, .int x5), (6, .int x6)]) rfl ?_
        refine z_iload_n (pc := 84) d_LW_refuses_84 rfl 2 rfl ?_
        refine z_iconst (pc := 85) d_LW_refuses_85 ki_2 ?_
        refine z_iremK (pc := 86) d_LW_refuses_86 (by decide) ?_
        refine z_if_ne (pc := 87) (tgt := 100) d_LW_refuses_87 (by decide) ?_ ?_
        · refine z_bipush (pc := 90) d_LW_refuses_90 kb_m31 ?_
          refine z_iload_n (pc := 92) d_LW_refuses_92 rfl 2 rfl ?_
          refine z_bipush (pc := 93) d_LW_refuses_93 kb_9 ?_
          refine z_iremK (pc := 95) d_LW_refuses_95 (by decide) ?_
          refine z_isub (pc := 96) d_LW_refuses_96 ?_
          refine z_goto (pc := 97) (tgt := 107) d_LW_refuses_97 (by decide) ?_
          refine z_kc (by omega) (by omega) (z_sub [1, 2, 3, 4, 5, 6, 7, 0] rfl (h107 x2 x3 x4 x5 x6 s0 ((-31 : Int32) - (zirem x1 (9 : Int32))) m4 D3))
        · refine z_bipush (pc := 100) d_LW_refuses_100 kb_31 ?_
          refine z_iload_n (pc := 102) d_LW_refuses_102 rfl 2 rfl ?_
          refine z_bipush (pc := 103) d_LW_refuses_103 kb_9 ?_
          refine z_iremK (pc := 105) d_LW_refuses_105 (by decide) ?_
          refine z_iadd (pc := 106) d_LW_refuses_106 ?_
          refine z_kc (by omega) (by omega) (z_sub [1, 2, 3, 4, 5, 6, 7, 0] rfl (h107 x2 x3 x4 x5 x6 s0 ((31 : Int32) + (zirem x1 (9 : Int32))) m4 D3))
    · refine z_istore (pc := 59) d_LW_refuses_59 (by decide) (lv' := [(6, .int s0), (0, .ref r0), (1, .int x1), (2, .int x2), (3, .int x3), (4, .int x4), (5, .int x5)]) rfl ?_
      refine z_iload_n (pc := 61) d_LW_refuses_61 rfl 2 rfl ?_
      refine z_iconst (pc := 62) d_LW_refuses_62 ki_2 ?_
      refine z_iremK (pc := 63) d_LW_refuses_63 (by decide) ?_
      refine z_if_ne (pc := 64) (tgt := 76) d_LW_refuses_64 (by decide) ?_ ?_
      · refine z_iconst (pc := 67) d_LW_refuses_67 ki_m1 ?_
        refine z_iload_n (pc := 68) d_LW_refuses_68 rfl 2 rfl ?_
        refine z_bipush (pc := 69) d_LW_refuses_69 kb_99 ?_
        refine z_iremK (pc := 71) d_LW_refuses_71 (by decide) ?_
        refine z_isub (pc := 72) d_LW_refuses_72 ?_
        refine z_goto (pc := 73) (tgt := 82) d_LW_refuses_73 (by decide) ?_
        refine z_kc (by omega) (by omega) (z_sub [1, 2, 3, 4, 5, 6, 0] rfl (h82 x2 x3 x4 x5 s0 ((-1 : Int32) - (zirem x1 (99 : Int32))) m2 D1))
      · refine z_iload_n (pc := 76) d_LW_refuses_76 rfl 4 rfl ?_
        refine z_iload_n (pc := 77) d_LW_refuses_77 rfl 2 rfl ?_
        refine z_bipush (pc := 78) d_LW_refuses_78 kb_99 ?_
        refine z_iremK (pc := 80) d_LW_refuses_80 (by decide) ?_
        refine z_iadd (pc := 81) d_LW_refuses_81 ?_
        refine z_kc (by omega) (by omega) (z_sub [1, 2, 3, 4, 5, 6, 0] rfl (h82 x2 x3 x4 x5 s0 (x3 + (zirem x1 (99 : Int32))) m2 D1))
  · refine z_aload_n (pc := 0) d_LW_refuses_0 rfl 0 rfl ?_
    refine z_iconst (pc := 1) d_LW_refuses_1 ki_2 ?_
    refine z_iconst (pc := 2) d_LW_refuses_2 ki_0 ?_
    refine z_iconst (pc := 3) d_LW_refuses_3 ki_0 ?_
    refine z_iconst (pc := 4) d_LW_refuses_4 ki_0 ?_
    refine z_callYA (pc := 5) (kc2 := 48) (ks2 := 288) [.ref r0, .int (2 : Int32), .int (0 : Int32), .int (0 : Int32), .int (0 : Int32)] lkS_LW_156 (c_LW_call (n0, w) D r0 (2 : Int32) (0 : Int32) (0 : Int32) (0 : Int32)) (by decide) (by omega) (by omega) rfl rfl (Nat.le_of_ble_eq_true rfl) d_LW_refuses_5 (fun v188 D189 m190 => ?_)
    refine z_istore_n (pc := 8) d_LW_refuses_8 rfl (by decide) (lv' := [(2, .int v188), (0, .ref r0), (1, .int x1)]) rfl ?_
    refine z_aload_n (pc := 9) d_LW_refuses_9 rfl 1 rfl ?_
    refine z_iconst (pc := 10) d_LW_refuses_10 ki_2 ?_
    refine z_iconst (pc := 11) d_LW_refuses_11 ki_1 ?_
    refine z_iconst (pc := 12) d_LW_refuses_12 ki_0 ?_
    refine z_iconst (pc := 13) d_LW_refuses_13 ki_0 ?_
    refine z_callYA (pc := 14) (kc2 := 47) (ks2 := 282) [.ref r0, .int (2 : Int32), .int (1 : Int32), .int (0 : Int32), .int (0 : Int32)] lkS_LW_156 (c_LW_call (m190, w) D189 r0 (2 : Int32) (1 : Int32) (0 : Int32) (0 : Int32)) (by decide) (by omega) (by omega) rfl rfl (Nat.le_of_ble_eq_true rfl) d_LW_refuses_14 (fun v191 D192 m193 => ?_)
    refine z_istore_n (pc := 17) d_LW_refuses_17 rfl (by decide) (lv' := [(3, .int v191), (2, .int v188), (0, .ref r0), (1, .int x1)]) rfl ?_
    refine z_aload_n (pc := 18) d_LW_refuses_18 rfl 2 rfl ?_
    refine z_iconst (pc := 19) d_LW_refuses_19 ki_2 ?_
    refine z_iconst (pc := 20) d_LW_refuses_20 ki_2 ?_
    refine z_iconst (pc := 21) d_LW_refuses_21 ki_0 ?_
    refine z_iconst (pc := 22) d_LW_refuses_22 ki_0 ?_
    refine z_callYA (pc := 23) (kc2 := 46) (ks2 := 276) [.ref r0, .int (2 : Int32), .int (2 : Int32), .int (0 : Int32), .int (0 : Int32)] lkS_LW_156 (c_LW_call (m193, w) D192 r0 (2 : Int32) (2 : Int32) (0 : Int32) (0 : Int32)) (by decide) (by omega) (by omega) rfl rfl (Nat.le_of_ble_eq_true rfl) d_LW_refuses_23 (fun v194 D195 m196 => ?_)
    refine z_istore (pc := 26) d_LW_refuses_26 (by decide) (lv' := [(4, .int v194), (3, .int v191), (2, .int v188), (0, .ref r0), (1, .int x1)]) rfl ?_
    refine z_aload_n (pc := 28) d_LW_refuses_28 rfl 3 rfl ?_
    refine z_iconst (pc := 29) d_LW_refuses_29 ki_2 ?_
    refine z_iconst (pc := 30) d_LW_refuses_30 ki_4 ?_
    refine z_iconst (pc := 31) d_LW_refuses_31 ki_0 ?_
    refine z_iconst (pc := 32) d_LW_refuses_32 ki_0 ?_
    refine z_callYA (pc := 33) (kc2 := 45) (ks2 := 270) [.ref r0, .int (2 : Int32), .int (4 : Int32), .int (0 : Int32), .int (0 : Int32)] lkS_LW_156 (c_LW_call (m196, w) D195 r0 (2 : Int32) (4 : Int32) (0 : Int32) (0 : Int32)) (by decide) (by omega) (by omega) rfl rfl (Nat.le_of_ble_eq_true rfl) d_LW_refuses_33 (fun v197 D198 m199 => ?_)
    refine z_istore (pc := 36) d_LW_refuses_36 (by decide) (lv' := [(5, .int v197), (4, .int v194), (3, .int v191), (2, .int v188), (0, .ref r0), (1, .int x1)]) rfl ?_
    refine z_iload_n (pc := 38) d_LW_refuses_38 rfl 5 rfl ?_
    refine z_iconst (pc := 39) d_LW_refuses_39 ki_2 ?_
    refine z_iremK (pc := 40) d_LW_refuses_40 (by decide) ?_
    refine z_if_ne (pc := 41) (tgt := 53) d_LW_refuses_41 (by decide) ?_ ?_
    · refine z_iconst (pc := 44) d_LW_refuses_44 ki_m1 ?_
      refine z_iload_n (pc := 45) d_LW_refuses_45 rfl 5 rfl ?_
      refine z_bipush (pc := 46) d_LW_refuses_46 kb_99 ?_
      refine z_iremK (pc := 48) d_LW_refuses_48 (by decide) ?_
      refine z_isub (pc := 49) d_LW_refuses_49 ?_
      refine z_goto (pc := 50) (tgt := 59) d_LW_refuses_50 (by decide) ?_
      refine z_kc (by omega) (by omega) (z_sub [4, 5, 3, 2, 1, 0] rfl (h59 v188 v191 v194 v197 ((-1 : Int32) - (zirem x1 (99 : Int32))) m199 D198))
    · refine z_iload_n (pc := 53) d_LW_refuses_53 rfl 3 rfl ?_
      refine z_iload_n (pc := 54) d_LW_refuses_54 rfl 5 rfl ?_
      refine z_bipush (pc := 55) d_LW_refuses_55 kb_99 ?_
      refine z_iremK (pc := 57) d_LW_refuses_57 (by decide) ?_
      refine z_iadd (pc := 58) d_LW_refuses_58 ?_
      refine z_kc (by omega) (by omega) (z_sub [4, 5, 3, 2, 1, 0] rfl (h59 v188 v191 v194 v197 (v188 + (zirem x1 (99 : Int32))) m199 D198))
