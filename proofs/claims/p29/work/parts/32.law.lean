theorem kb_19 : (Int8.ofInt (19)).toInt32 = (19 : Int32) := by decide +kernel
theorem ks_5000 : (Int16.ofInt (5000)).toInt32 = (5000 : Int32) := by decide +kernel
def Y_LW_law : zY := (x, code, maxLocals, ret, [])
theorem w_cl_LW_8 : Cond.classLink "SirenFairLaw" 8 "SirenFair" ∈ zWd := zin 34 (by decide +kernel) rfl
theorem w_inst_SF : Cond.instantiable "SirenFair" 9 ∈ zWd := zin 35 (by decide +kernel) rfl
theorem w_c_SF_init : Cond.code Y_SF_init.1 Y_SF_init.2.1 Y_SF_init.2.2.1 Y_SF_init.2.2.2.1 ∈ zWd := zin 38 (by decide +kernel) rfl
theorem lk_SF_init : zlk Y_SF_init 0 := ⟨w_c_SF_init, w_ini_SF, by decide +kernel, by decide +kernel, by decide⟩
theorem w_ml_LW_193 : Cond.methodLink "SirenFairLaw" 193 Y_SF_init.1 ∈ zWd := zin 36 (by decide +kernel) rfl
theorem w_im_SF_init : Cond.instanceMethod Y_SF_init.1 ∈ zWd := zin 37 (by decide +kernel) rfl
theorem lkI_LW_193 : zlkI "SirenFairLaw" 193 Y_SF_init 0 := ⟨lk_SF_init, w_ml_LW_193, w_im_SF_init, rfl, rfl⟩
theorem w_c_LW_cell : Cond.code Y_LW_cell.1 Y_LW_cell.2.1 Y_LW_cell.2.2.1 Y_LW_cell.2.2.2.1 ∈ zWd := zin 493 (by decide +kernel) rfl
theorem lk_LW_cell : zlk Y_LW_cell 2 := ⟨w_c_LW_cell, w_ini_LW, by decide +kernel, by decide +kernel, by decide⟩
theorem w_ml_LW_194 : Cond.methodLink "SirenFairLaw" 194 Y_LW_cell.1 ∈ zWd := zin 491 (by decide +kernel) rfl
theorem w_st_LW_cell : Cond.static Y_LW_cell.1 ∈ zWd := zin 492 (by decide +kernel) rfl
theorem lkS_LW_194 : zlkS "SirenFairLaw" 194 Y_LW_cell 2 := ⟨lk_LW_cell, w_ml_LW_194, w_st_LW_cell⟩
theorem w_c_LW_act : Cond.code Y_LW_act.1 Y_LW_act.2.1 Y_LW_act.2.2.1 Y_LW_act.2.2.2.1 ∈ zWd := zin 950 (by decide +kernel) rfl
theorem lk_LW_act : zlk Y_LW_act 2 := ⟨w_c_LW_act, w_ini_LW, by decide +kernel, by decide +kernel, by decide⟩
theorem w_ml_LW_198 : Cond.methodLink "SirenFairLaw" 198 Y_LW_act.1 ∈ zWd := zin 948 (by decide +kernel) rfl
theorem w_st_LW_act : Cond.static Y_LW_act.1 ∈ zWd := zin 949 (by decide +kernel) rfl
theorem lkS_LW_198 : zlkS "SirenFairLaw" 198 Y_LW_act 2 := ⟨lk_LW_act, w_ml_LW_198, w_st_LW_act⟩
theorem w_k_LW_201 : Cond.constant "SirenFairLaw" 201 (100000) ∈ zWd := zin 971 (by decide +kernel) rfl
set_option maxRecDepth 1000000 in
set_option maxHeartbeats 4000000 in
theorem w_c_LW_refuses : Cond.code Y_LW_refuses.1 Y_LW_refuses.2.1 Y_LW_refuses.2.2.1 Y_LW_refuses.2.2.2.1 ∈ zWd := zin 498 (by rfl) rfl
theorem lk_LW_refuses : zlk Y_LW_refuses 2 := ⟨w_c_LW_refuses, w_ini_LW, by decide +kernel, by decide +kernel, by decide⟩
theorem w_ml_LW_202 : Cond.methodLink "SirenFairLaw" 202 Y_LW_refuses.1 ∈ zWd := zin 496 (by decide +kernel) rfl
theorem w_st_LW_refuses : Cond.static Y_LW_refuses.1 ∈ zWd := zin 497 (by decide +kernel) rfl
theorem lkS_LW_202 : zlkS "SirenFairLaw" 202 Y_LW_refuses 2 := ⟨lk_LW_refuses, w_ml_LW_202, w_st_LW_refuses⟩
theorem w_c_LW_alike : Cond.code Y_LW_alike.1 Y_LW_alike.2.1 Y_LW_alike.2.2.1 Y_LW_alike.2.2.2.1 ∈ zWd := zin 955 (by decide +kernel) rfl
theorem lk_LW_alike : zlk Y_LW_alike 3 := ⟨w_c_LW_alike, w_ini_LW, by decide +kernel, by decide +kernel, by decide⟩
theorem w_ml_LW_206 : Cond.methodLink "SirenFairLaw" 206 Y_LW_alike.1 ∈ zWd := zin 953 (by decide +kernel) rfl
theorem w_st_LW_alike : Cond.static Y_LW_alike.1 ∈ zWd := zin 954 (by decide +kernel) rfl
theorem lkS_LW_206 : zlkS "SirenFairLaw" 206 Y_LW_alike 3 := ⟨lk_LW_alike, w_ml_LW_206, w_st_LW_alike⟩
theorem w_c_LW_goes : Cond.code Y_LW_goes.1 Y_LW_goes.2.1 Y_LW_goes.2.2.1 Y_LW_goes.2.2.2.1 ∈ zWd := zin 958 (by decide +kernel) rfl
theorem lk_LW_goes : zlk Y_LW_goes 3 := ⟨w_c_LW_goes, w_ini_LW, by decide +kernel, by decide +kernel, by decide⟩
theorem w_ml_LW_213 : Cond.methodLink "SirenFairLaw" 213 Y_LW_goes.1 ∈ zWd := zin 956 (by decide +kernel) rfl
theorem w_st_LW_goes : Cond.static Y_LW_goes.1 ∈ zWd := zin 957 (by decide +kernel) rfl
theorem lkS_LW_213 : zlkS "SirenFairLaw" 213 Y_LW_goes 3 := ⟨lk_LW_goes, w_ml_LW_213, w_st_LW_goes⟩
theorem w_c_LW_least : Cond.code Y_LW_least.1 Y_LW_least.2.1 Y_LW_least.2.2.1 Y_LW_least.2.2.2.1 ∈ zWd := zin 970 (by decide +kernel) rfl
theorem lk_LW_least : zlk Y_LW_least 3 := ⟨w_c_LW_least, w_ini_LW, by decide +kernel, by decide +kernel, by decide⟩
theorem w_ml_LW_216 : Cond.methodLink "SirenFairLaw" 216 Y_LW_least.1 ∈ zWd := zin 968 (by decide +kernel) rfl
theorem w_st_LW_least : Cond.static Y_LW_least.1 ∈ zWd := zin 969 (by decide +kernel) rfl
theorem lkS_LW_216 : zlkS "SirenFairLaw" 216 Y_LW_least 3 := ⟨lk_LW_least, w_ml_LW_216, w_st_LW_least⟩
set_option maxRecDepth 1000000 in
set_option maxHeartbeats 4000000 in
theorem w_c_LW_holds : Cond.code Y_LW_holds.1 Y_LW_holds.2.1 Y_LW_holds.2.2.1 Y_LW_holds.2.2.2.1 ∈ zWd := zin 936 (by rfl) rfl
theorem lk_LW_holds : zlk Y_LW_holds 2 := ⟨w_c_LW_holds, w_ini_LW, by decide +kernel, by decide +kernel, by decide⟩
theorem w_ml_LW_210 : Cond.methodLink "SirenFairLaw" 210 Y_LW_holds.1 ∈ zWd := zin 934 (by decide +kernel) rfl
theorem w_st_LW_holds : Cond.static Y_LW_holds.1 ∈ zWd := zin 935 (by decide +kernel) rfl
theorem lkS_LW_210 : zlkS "SirenFairLaw" 210 Y_LW_holds 2 := ⟨lk_LW_holds, w_ml_LW_210, w_st_LW_holds⟩
theorem d_LW_law_0 : decode Y_LW_law.2.1 0 = .ok (.new 8, 3) := by decide +kernel
theorem d_LW_law_3 : decode Y_LW_law.2.1 3 = .ok (.dup, 1) := by decide +kernel
theorem d_LW_law_4 : decode Y_LW_law.2.1 4 = .ok (.invokespecial 193, 3) := by decide +kernel
theorem d_LW_law_7 : decode Y_LW_law.2.1 7 = .ok (.astore_n 1, 1) := by decide +kernel
theorem d_LW_law_8 : decode Y_LW_law.2.1 8 = .ok (.new 8, 3) := by decide +kernel
theorem d_LW_law_11 : decode Y_LW_law.2.1 11 = .ok (.dup, 1) := by decide +kernel
theorem d_LW_law_12 : decode Y_LW_law.2.1 12 = .ok (.invokespecial 193, 3) := by decide +kernel
theorem d_LW_law_15 : decode Y_LW_law.2.1 15 = .ok (.astore_n 2, 1) := by decide +kernel
theorem d_LW_law_16 : decode Y_LW_law.2.1 16 = .ok (.bipush (12), 2) := by decide +kernel
theorem d_LW_law_18 : decode Y_LW_law.2.1 18 = .ok (.aload_n 0, 1) := by decide +kernel
theorem d_LW_law_19 : decode Y_LW_law.2.1 19 = .ok (.iconst (0), 1) := by decide +kernel
theorem d_LW_law_20 : decode Y_LW_law.2.1 20 = .ok (.invokestatic 194, 3) := by decide +kernel
theorem d_LW_law_23 : decode Y_LW_law.2.1 23 = .ok (.bipush (19), 2) := by decide +kernel
theorem d_LW_law_25 : decode Y_LW_law.2.1 25 = .ok (.irem, 1) := by decide +kernel
theorem d_LW_law_26 : decode Y_LW_law.2.1 26 = .ok (.iadd, 1) := by decide +kernel
theorem d_LW_law_27 : decode Y_LW_law.2.1 27 = .ok (.istore_n 3, 1) := by decide +kernel
theorem d_LW_law_28 : decode Y_LW_law.2.1 28 = .ok (.aload_n 0, 1) := by decide +kernel
theorem d_LW_law_29 : decode Y_LW_law.2.1 29 = .ok (.iconst (1), 1) := by decide +kernel
theorem d_LW_law_30 : decode Y_LW_law.2.1 30 = .ok (.invokestatic 194, 3) := by decide +kernel
theorem d_LW_law_33 : decode Y_LW_law.2.1 33 = .ok (.istore 4, 2) := by decide +kernel
theorem d_LW_law_35 : decode Y_LW_law.2.1 35 = .ok (.aload_n 0, 1) := by decide +kernel
theorem d_LW_law_36 : decode Y_LW_law.2.1 36 = .ok (.iconst (2), 1) := by decide +kernel
theorem d_LW_law_37 : decode Y_LW_law.2.1 37 = .ok (.invokestatic 194, 3) := by decide +kernel
theorem d_LW_law_40 : decode Y_LW_law.2.1 40 = .ok (.istore 5, 2) := by decide +kernel
theorem d_LW_law_42 : decode Y_LW_law.2.1 42 = .ok (.aload_n 1, 1) := by decide +kernel
theorem d_LW_law_43 : decode Y_LW_law.2.1 43 = .ok (.iload 4, 2) := by decide +kernel
theorem d_LW_law_45 : decode Y_LW_law.2.1 45 = .ok (.bipush (61), 2) := by decide +kernel
theorem d_LW_law_47 : decode Y_LW_law.2.1 47 = .ok (.irem, 1) := by decide +kernel
theorem d_LW_law_48 : decode Y_LW_law.2.1 48 = .ok (.bipush (30), 2) := by decide +kernel
theorem d_LW_law_50 : decode Y_LW_law.2.1 50 = .ok (.isub, 1) := by decide +kernel
theorem d_LW_law_51 : decode Y_LW_law.2.1 51 = .ok (.iload 4, 2) := by decide +kernel
theorem d_LW_law_53 : decode Y_LW_law.2.1 53 = .ok (.bipush (61), 2) := by decide +kernel
theorem d_LW_law_55 : decode Y_LW_law.2.1 55 = .ok (.idiv, 1) := by decide +kernel
theorem d_LW_law_56 : decode Y_LW_law.2.1 56 = .ok (.bipush (61), 2) := by decide +kernel
theorem d_LW_law_58 : decode Y_LW_law.2.1 58 = .ok (.irem, 1) := by decide +kernel
theorem d_LW_law_59 : decode Y_LW_law.2.1 59 = .ok (.bipush (30), 2) := by decide +kernel
theorem d_LW_law_61 : decode Y_LW_law.2.1 61 = .ok (.isub, 1) := by decide +kernel
theorem d_LW_law_62 : decode Y_LW_law.2.1 62 = .ok (.iconst (1), 1) := by decide +kernel
theorem d_LW_law_63 : decode Y_LW_law.2.1 63 = .ok (.iload 4, 2) := by decide +kernel
theorem d_LW_law_65 : decode Y_LW_law.2.1 65 = .ok (.sipush (3721), 3) := by decide +kernel
theorem d_LW_law_68 : decode Y_LW_law.2.1 68 = .ok (.idiv, 1) := by decide +kernel
theorem d_LW_law_69 : decode Y_LW_law.2.1 69 = .ok (.iconst (5), 1) := by decide +kernel
theorem d_LW_law_70 : decode Y_LW_law.2.1 70 = .ok (.irem, 1) := by decide +kernel
theorem d_LW_law_71 : decode Y_LW_law.2.1 71 = .ok (.iadd, 1) := by decide +kernel
theorem d_LW_law_72 : decode Y_LW_law.2.1 72 = .ok (.iload 4, 2) := by decide +kernel
theorem d_LW_law_74 : decode Y_LW_law.2.1 74 = .ok (.sipush (18605), 3) := by decide +kernel
theorem d_LW_law_77 : decode Y_LW_law.2.1 77 = .ok (.idiv, 1) := by decide +kernel
theorem d_LW_law_78 : decode Y_LW_law.2.1 78 = .ok (.bipush (7), 2) := by decide +kernel
theorem d_LW_law_80 : decode Y_LW_law.2.1 80 = .ok (.irem, 1) := by decide +kernel
theorem d_LW_law_81 : decode Y_LW_law.2.1 81 = .ok (.iconst (3), 1) := by decide +kernel
theorem d_LW_law_82 : decode Y_LW_law.2.1 82 = .ok (.isub, 1) := by decide +kernel
theorem d_LW_law_83 : decode Y_LW_law.2.1 83 = .ok (.iconst (1), 1) := by decide +kernel
theorem d_LW_law_84 : decode Y_LW_law.2.1 84 = .ok (.iload 4, 2) := by decide +kernel
theorem d_LW_law_86 : decode Y_LW_law.2.1 86 = .ok (.ldc 191, 2) := by decide +kernel
theorem d_LW_law_88 : decode Y_LW_law.2.1 88 = .ok (.idiv, 1) := by decide +kernel
theorem d_LW_law_89 : decode Y_LW_law.2.1 89 = .ok (.bipush (20), 2) := by decide +kernel
theorem d_LW_law_91 : decode Y_LW_law.2.1 91 = .ok (.irem, 1) := by decide +kernel
theorem d_LW_law_92 : decode Y_LW_law.2.1 92 = .ok (.iadd, 1) := by decide +kernel
theorem d_LW_law_93 : decode Y_LW_law.2.1 93 = .ok (.invokestatic 160, 3) := by decide +kernel
theorem d_LW_law_96 : decode Y_LW_law.2.1 96 = .ok (.ifCond .ne (154), 3) := by decide +kernel
theorem d_LW_law_99 : decode Y_LW_law.2.1 99 = .ok (.aload_n 2, 1) := by decide +kernel
theorem d_LW_law_100 : decode Y_LW_law.2.1 100 = .ok (.iload 4, 2) := by decide +kernel
theorem d_LW_law_102 : decode Y_LW_law.2.1 102 = .ok (.bipush (61), 2) := by decide +kernel
theorem d_LW_law_104 : decode Y_LW_law.2.1 104 = .ok (.irem, 1) := by decide +kernel
theorem d_LW_law_105 : decode Y_LW_law.2.1 105 = .ok (.bipush (30), 2) := by decide +kernel
theorem d_LW_law_107 : decode Y_LW_law.2.1 107 = .ok (.isub, 1) := by decide +kernel
theorem d_LW_law_108 : decode Y_LW_law.2.1 108 = .ok (.iload 4, 2) := by decide +kernel
theorem d_LW_law_110 : decode Y_LW_law.2.1 110 = .ok (.bipush (61), 2) := by decide +kernel
theorem d_LW_law_112 : decode Y_LW_law.2.1 112 = .ok (.idiv, 1) := by decide +kernel
theorem d_LW_law_113 : decode Y_LW_law.2.1 113 = .ok (.bipush (61), 2) := by decide +kernel
theorem d_LW_law_115 : decode Y_LW_law.2.1 115 = .ok (.irem, 1) := by decide +kernel
theorem d_LW_law_116 : decode Y_LW_law.2.1 116 = .ok (.bipush (30), 2) := by decide +kernel
theorem d_LW_law_118 : decode Y_LW_law.2.1 118 = .ok (.isub, 1) := by decide +kernel
theorem d_LW_law_119 : decode Y_LW_law.2.1 119 = .ok (.iconst (1), 1) := by decide +kernel
theorem d_LW_law_120 : decode Y_LW_law.2.1 120 = .ok (.iload 4, 2) := by decide +kernel
theorem d_LW_law_122 : decode Y_LW_law.2.1 122 = .ok (.sipush (3721), 3) := by decide +kernel
theorem d_LW_law_125 : decode Y_LW_law.2.1 125 = .ok (.idiv, 1) := by decide +kernel
theorem d_LW_law_126 : decode Y_LW_law.2.1 126 = .ok (.iconst (5), 1) := by decide +kernel
theorem d_LW_law_127 : decode Y_LW_law.2.1 127 = .ok (.irem, 1) := by decide +kernel
theorem d_LW_law_128 : decode Y_LW_law.2.1 128 = .ok (.iadd, 1) := by decide +kernel
theorem d_LW_law_129 : decode Y_LW_law.2.1 129 = .ok (.iload 4, 2) := by decide +kernel
theorem d_LW_law_131 : decode Y_LW_law.2.1 131 = .ok (.sipush (18605), 3) := by decide +kernel
theorem d_LW_law_134 : decode Y_LW_law.2.1 134 = .ok (.idiv, 1) := by decide +kernel
theorem d_LW_law_135 : decode Y_LW_law.2.1 135 = .ok (.bipush (7), 2) := by decide +kernel
theorem d_LW_law_137 : decode Y_LW_law.2.1 137 = .ok (.irem, 1) := by decide +kernel
theorem d_LW_law_138 : decode Y_LW_law.2.1 138 = .ok (.iconst (3), 1) := by decide +kernel
theorem d_LW_law_139 : decode Y_LW_law.2.1 139 = .ok (.isub, 1) := by decide +kernel
theorem d_LW_law_140 : decode Y_LW_law.2.1 140 = .ok (.iconst (1), 1) := by decide +kernel
theorem d_LW_law_141 : decode Y_LW_law.2.1 141 = .ok (.iload 4, 2) := by decide +kernel
theorem d_LW_law_143 : decode Y_LW_law.2.1 143 = .ok (.ldc 191, 2) := by decide +kernel
theorem d_LW_law_145 : decode Y_LW_law.2.1 145 = .ok (.idiv, 1) := by decide +kernel
theorem d_LW_law_146 : decode Y_LW_law.2.1 146 = .ok (.bipush (20), 2) := by decide +kernel
theorem d_LW_law_148 : decode Y_LW_law.2.1 148 = .ok (.irem, 1) := by decide +kernel
theorem d_LW_law_149 : decode Y_LW_law.2.1 149 = .ok (.iadd, 1) := by decide +kernel
theorem d_LW_law_150 : decode Y_LW_law.2.1 150 = .ok (.invokestatic 160, 3) := by decide +kernel
theorem d_LW_law_153 : decode Y_LW_law.2.1 153 = .ok (.ifCond .ne (97), 3) := by decide +kernel
theorem d_LW_law_156 : decode Y_LW_law.2.1 156 = .ok (.aload_n 1, 1) := by decide +kernel
theorem d_LW_law_157 : decode Y_LW_law.2.1 157 = .ok (.iload 5, 2) := by decide +kernel
theorem d_LW_law_159 : decode Y_LW_law.2.1 159 = .ok (.bipush (81), 2) := by decide +kernel
theorem d_LW_law_161 : decode Y_LW_law.2.1 161 = .ok (.irem, 1) := by decide +kernel
theorem d_LW_law_162 : decode Y_LW_law.2.1 162 = .ok (.bipush (40), 2) := by decide +kernel
theorem d_LW_law_164 : decode Y_LW_law.2.1 164 = .ok (.isub, 1) := by decide +kernel
theorem d_LW_law_165 : decode Y_LW_law.2.1 165 = .ok (.iload 5, 2) := by decide +kernel
theorem d_LW_law_167 : decode Y_LW_law.2.1 167 = .ok (.bipush (81), 2) := by decide +kernel
theorem d_LW_law_169 : decode Y_LW_law.2.1 169 = .ok (.idiv, 1) := by decide +kernel
theorem d_LW_law_170 : decode Y_LW_law.2.1 170 = .ok (.bipush (81), 2) := by decide +kernel
theorem d_LW_law_172 : decode Y_LW_law.2.1 172 = .ok (.irem, 1) := by decide +kernel
theorem d_LW_law_173 : decode Y_LW_law.2.1 173 = .ok (.bipush (40), 2) := by decide +kernel
theorem d_LW_law_175 : decode Y_LW_law.2.1 175 = .ok (.isub, 1) := by decide +kernel
theorem d_LW_law_176 : decode Y_LW_law.2.1 176 = .ok (.iload 5, 2) := by decide +kernel
theorem d_LW_law_178 : decode Y_LW_law.2.1 178 = .ok (.sipush (6561), 3) := by decide +kernel
theorem d_LW_law_181 : decode Y_LW_law.2.1 181 = .ok (.idiv, 1) := by decide +kernel
theorem d_LW_law_182 : decode Y_LW_law.2.1 182 = .ok (.iconst (5), 1) := by decide +kernel
theorem d_LW_law_183 : decode Y_LW_law.2.1 183 = .ok (.irem, 1) := by decide +kernel
theorem d_LW_law_184 : decode Y_LW_law.2.1 184 = .ok (.iconst (2), 1) := by decide +kernel
theorem d_LW_law_185 : decode Y_LW_law.2.1 185 = .ok (.isub, 1) := by decide +kernel
theorem d_LW_law_186 : decode Y_LW_law.2.1 186 = .ok (.iload 5, 2) := by decide +kernel
theorem d_LW_law_188 : decode Y_LW_law.2.1 188 = .ok (.ldc 192, 2) := by decide +kernel
theorem d_LW_law_190 : decode Y_LW_law.2.1 190 = .ok (.idiv, 1) := by decide +kernel
theorem d_LW_law_191 : decode Y_LW_law.2.1 191 = .ok (.iconst (5), 1) := by decide +kernel
theorem d_LW_law_192 : decode Y_LW_law.2.1 192 = .ok (.irem, 1) := by decide +kernel
theorem d_LW_law_193 : decode Y_LW_law.2.1 193 = .ok (.iconst (2), 1) := by decide +kernel
theorem d_LW_law_194 : decode Y_LW_law.2.1 194 = .ok (.isub, 1) := by decide +kernel
theorem d_LW_law_195 : decode Y_LW_law.2.1 195 = .ok (.invokestatic 164, 3) := by decide +kernel
theorem d_LW_law_198 : decode Y_LW_law.2.1 198 = .ok (.ifCond .ne (52), 3) := by decide +kernel
theorem d_LW_law_201 : decode Y_LW_law.2.1 201 = .ok (.aload_n 2, 1) := by decide +kernel
theorem d_LW_law_202 : decode Y_LW_law.2.1 202 = .ok (.iload 5, 2) := by decide +kernel
theorem d_LW_law_204 : decode Y_LW_law.2.1 204 = .ok (.bipush (81), 2) := by decide +kernel
theorem d_LW_law_206 : decode Y_LW_law.2.1 206 = .ok (.irem, 1) := by decide +kernel
theorem d_LW_law_207 : decode Y_LW_law.2.1 207 = .ok (.bipush (40), 2) := by decide +kernel
theorem d_LW_law_209 : decode Y_LW_law.2.1 209 = .ok (.isub, 1) := by decide +kernel
theorem d_LW_law_210 : decode Y_LW_law.2.1 210 = .ok (.iload 5, 2) := by decide +kernel
theorem d_LW_law_212 : decode Y_LW_law.2.1 212 = .ok (.bipush (81), 2) := by decide +kernel
theorem d_LW_law_214 : decode Y_LW_law.2.1 214 = .ok (.idiv, 1) := by decide +kernel
theorem d_LW_law_215 : decode Y_LW_law.2.1 215 = .ok (.bipush (81), 2) := by decide +kernel
theorem d_LW_law_217 : decode Y_LW_law.2.1 217 = .ok (.irem, 1) := by decide +kernel
theorem d_LW_law_218 : decode Y_LW_law.2.1 218 = .ok (.bipush (40), 2) := by decide +kernel
theorem d_LW_law_220 : decode Y_LW_law.2.1 220 = .ok (.isub, 1) := by decide +kernel
theorem d_LW_law_221 : decode Y_LW_law.2.1 221 = .ok (.iload 5, 2) := by decide +kernel
theorem d_LW_law_223 : decode Y_LW_law.2.1 223 = .ok (.sipush (6561), 3) := by decide +kernel
theorem d_LW_law_226 : decode Y_LW_law.2.1 226 = .ok (.idiv, 1) := by decide +kernel
theorem d_LW_law_227 : decode Y_LW_law.2.1 227 = .ok (.iconst (5), 1) := by decide +kernel
theorem d_LW_law_228 : decode Y_LW_law.2.1 228 = .ok (.irem, 1) := by decide +kernel
theorem d_LW_law_229 : decode Y_LW_law.2.1 229 = .ok (.iconst (2), 1) := by decide +kernel
theorem d_LW_law_230 : decode Y_LW_law.2.1 230 = .ok (.isub, 1) := by decide +kernel
theorem d_LW_law_231 : decode Y_LW_law.2.1 231 = .ok (.iload 5, 2) := by decide +kernel
theorem d_LW_law_233 : decode Y_LW_law.2.1 233 = .ok (.ldc 192, 2) := by decide +kernel
theorem d_LW_law_235 : decode Y_LW_law.2.1 235 = .ok (.idiv, 1) := by decide +kernel
theorem d_LW_law_236 : decode Y_LW_law.2.1 236 = .ok (.iconst (5), 1) := by decide +kernel
theorem d_LW_law_237 : decode Y_LW_law.2.1 237 = .ok (.irem, 1) := by decide +kernel
theorem d_LW_law_238 : decode Y_LW_law.2.1 238 = .ok (.iconst (2), 1) := by decide +kernel
theorem d_LW_law_239 : decode Y_LW_law.2.1 239 = .ok (.isub, 1) := by decide +kernel
theorem d_LW_law_240 : decode Y_LW_law.2.1 240 = .ok (.invokestatic 164, 3) := by decide +kernel
theorem d_LW_law_243 : decode Y_LW_law.2.1 243 = .ok (.ifCond .ne (7), 3) := by decide +kernel
theorem d_LW_law_246 : decode Y_LW_law.2.1 246 = .ok (.iconst (1), 1) := by decide +kernel
theorem d_LW_law_247 : decode Y_LW_law.2.1 247 = .ok (.goto (4), 3) := by decide +kernel
theorem d_LW_law_250 : decode Y_LW_law.2.1 250 = .ok (.iconst (0), 1) := by decide +kernel
theorem d_LW_law_251 : decode Y_LW_law.2.1 251 = .ok (.istore 6, 2) := by decide +kernel
theorem d_LW_law_253 : decode Y_LW_law.2.1 253 = .ok (.iconst (0), 1) := by decide +kernel
theorem d_LW_law_254 : decode Y_LW_law.2.1 254 = .ok (.istore 7, 2) := by decide +kernel
theorem d_LW_law_256 : decode Y_LW_law.2.1 256 = .ok (.iload 7, 2) := by decide +kernel
theorem d_LW_law_258 : decode Y_LW_law.2.1 258 = .ok (.iload_n 3, 1) := by decide +kernel
theorem d_LW_law_259 : decode Y_LW_law.2.1 259 = .ok (.if_icmp .ge (154), 3) := by decide +kernel
theorem d_LW_law_262 : decode Y_LW_law.2.1 262 = .ok (.iload 6, 2) := by decide +kernel
theorem d_LW_law_264 : decode Y_LW_law.2.1 264 = .ok (.ifCond .eq (149), 3) := by decide +kernel
theorem d_LW_law_267 : decode Y_LW_law.2.1 267 = .ok (.aload_n 0, 1) := by decide +kernel
theorem d_LW_law_268 : decode Y_LW_law.2.1 268 = .ok (.iconst (3), 1) := by decide +kernel
theorem d_LW_law_269 : decode Y_LW_law.2.1 269 = .ok (.iload 7, 2) := by decide +kernel
theorem d_LW_law_271 : decode Y_LW_law.2.1 271 = .ok (.iadd, 1) := by decide +kernel
theorem d_LW_law_272 : decode Y_LW_law.2.1 272 = .ok (.invokestatic 194, 3) := by decide +kernel
theorem d_LW_law_275 : decode Y_LW_law.2.1 275 = .ok (.istore 8, 2) := by decide +kernel
theorem d_LW_law_277 : decode Y_LW_law.2.1 277 = .ok (.aload_n 1, 1) := by decide +kernel
theorem d_LW_law_278 : decode Y_LW_law.2.1 278 = .ok (.iload 8, 2) := by decide +kernel
theorem d_LW_law_280 : decode Y_LW_law.2.1 280 = .ok (.invokestatic 198, 3) := by decide +kernel
theorem d_LW_law_283 : decode Y_LW_law.2.1 283 = .ok (.istore 9, 2) := by decide +kernel
theorem d_LW_law_285 : decode Y_LW_law.2.1 285 = .ok (.aload_n 2, 1) := by decide +kernel
theorem d_LW_law_286 : decode Y_LW_law.2.1 286 = .ok (.iload 8, 2) := by decide +kernel
theorem d_LW_law_288 : decode Y_LW_law.2.1 288 = .ok (.ldc 201, 2) := by decide +kernel
theorem d_LW_law_290 : decode Y_LW_law.2.1 290 = .ok (.irem, 1) := by decide +kernel
theorem d_LW_law_291 : decode Y_LW_law.2.1 291 = .ok (.invokestatic 202, 3) := by decide +kernel
theorem d_LW_law_294 : decode Y_LW_law.2.1 294 = .ok (.ifCond .eq (110), 3) := by decide +kernel
theorem d_LW_law_297 : decode Y_LW_law.2.1 297 = .ok (.aload_n 2, 1) := by decide +kernel
theorem d_LW_law_298 : decode Y_LW_law.2.1 298 = .ok (.iload 8, 2) := by decide +kernel
theorem d_LW_law_300 : decode Y_LW_law.2.1 300 = .ok (.invokestatic 198, 3) := by decide +kernel
theorem d_LW_law_303 : decode Y_LW_law.2.1 303 = .ok (.iload 9, 2) := by decide +kernel
theorem d_LW_law_305 : decode Y_LW_law.2.1 305 = .ok (.if_icmp .ne (99), 3) := by decide +kernel
theorem d_LW_law_308 : decode Y_LW_law.2.1 308 = .ok (.aload_n 2, 1) := by decide +kernel
theorem d_LW_law_309 : decode Y_LW_law.2.1 309 = .ok (.iload 8, 2) := by decide +kernel
theorem d_LW_law_311 : decode Y_LW_law.2.1 311 = .ok (.sipush (1000), 3) := by decide +kernel
theorem d_LW_law_314 : decode Y_LW_law.2.1 314 = .ok (.irem, 1) := by decide +kernel
theorem d_LW_law_315 : decode Y_LW_law.2.1 315 = .ok (.invokestatic 202, 3) := by decide +kernel
theorem d_LW_law_318 : decode Y_LW_law.2.1 318 = .ok (.ifCond .eq (86), 3) := by decide +kernel
theorem d_LW_law_321 : decode Y_LW_law.2.1 321 = .ok (.aload_n 1, 1) := by decide +kernel
theorem d_LW_law_322 : decode Y_LW_law.2.1 322 = .ok (.aload_n 2, 1) := by decide +kernel
theorem d_LW_law_323 : decode Y_LW_law.2.1 323 = .ok (.iload 8, 2) := by decide +kernel
theorem d_LW_law_325 : decode Y_LW_law.2.1 325 = .ok (.sipush (5000), 3) := by decide +kernel
theorem d_LW_law_328 : decode Y_LW_law.2.1 328 = .ok (.irem, 1) := by decide +kernel
theorem d_LW_law_329 : decode Y_LW_law.2.1 329 = .ok (.invokestatic 206, 3) := by decide +kernel
theorem d_LW_law_332 : decode Y_LW_law.2.1 332 = .ok (.ifCond .eq (72), 3) := by decide +kernel
theorem d_LW_law_335 : decode Y_LW_law.2.1 335 = .ok (.iload 7, 2) := by decide +kernel
theorem d_LW_law_337 : decode Y_LW_law.2.1 337 = .ok (.iconst (2), 1) := by decide +kernel
theorem d_LW_law_338 : decode Y_LW_law.2.1 338 = .ok (.irem, 1) := by decide +kernel
theorem d_LW_law_339 : decode Y_LW_law.2.1 339 = .ok (.ifCond .ne (17), 3) := by decide +kernel
theorem d_LW_law_342 : decode Y_LW_law.2.1 342 = .ok (.aload_n 1, 1) := by decide +kernel
theorem d_LW_law_343 : decode Y_LW_law.2.1 343 = .ok (.iload 8, 2) := by decide +kernel
theorem d_LW_law_345 : decode Y_LW_law.2.1 345 = .ok (.iconst (3), 1) := by decide +kernel
theorem d_LW_law_346 : decode Y_LW_law.2.1 346 = .ok (.idiv, 1) := by decide +kernel
theorem d_LW_law_347 : decode Y_LW_law.2.1 347 = .ok (.invokestatic 210, 3) := by decide +kernel
theorem d_LW_law_350 : decode Y_LW_law.2.1 350 = .ok (.ifCond .eq (54), 3) := by decide +kernel
theorem d_LW_law_353 : decode Y_LW_law.2.1 353 = .ok (.goto (14), 3) := by decide +kernel
theorem d_LW_law_356 : decode Y_LW_law.2.1 356 = .ok (.aload_n 2, 1) := by decide +kernel
theorem d_LW_law_357 : decode Y_LW_law.2.1 357 = .ok (.iload 8, 2) := by decide +kernel
theorem d_LW_law_359 : decode Y_LW_law.2.1 359 = .ok (.iconst (3), 1) := by decide +kernel
theorem d_LW_law_360 : decode Y_LW_law.2.1 360 = .ok (.idiv, 1) := by decide +kernel
theorem d_LW_law_361 : decode Y_LW_law.2.1 361 = .ok (.invokestatic 210, 3) := by decide +kernel
theorem d_LW_law_364 : decode Y_LW_law.2.1 364 = .ok (.ifCond .eq (40), 3) := by decide +kernel
theorem d_LW_law_367 : decode Y_LW_law.2.1 367 = .ok (.aload_n 1, 1) := by decide +kernel
theorem d_LW_law_368 : decode Y_LW_law.2.1 368 = .ok (.aload_n 2, 1) := by decide +kernel
theorem d_LW_law_369 : decode Y_LW_law.2.1 369 = .ok (.iload 8, 2) := by decide +kernel
theorem d_LW_law_371 : decode Y_LW_law.2.1 371 = .ok (.bipush (7), 2) := by decide +kernel
theorem d_LW_law_373 : decode Y_LW_law.2.1 373 = .ok (.idiv, 1) := by decide +kernel
theorem d_LW_law_374 : decode Y_LW_law.2.1 374 = .ok (.invokestatic 213, 3) := by decide +kernel
theorem d_LW_law_377 : decode Y_LW_law.2.1 377 = .ok (.ifCond .eq (27), 3) := by decide +kernel
theorem d_LW_law_380 : decode Y_LW_law.2.1 380 = .ok (.iload 7, 2) := by decide +kernel
theorem d_LW_law_382 : decode Y_LW_law.2.1 382 = .ok (.iconst (3), 1) := by decide +kernel
theorem d_LW_law_383 : decode Y_LW_law.2.1 383 = .ok (.irem, 1) := by decide +kernel
theorem d_LW_law_384 : decode Y_LW_law.2.1 384 = .ok (.ifCond .gt (16), 3) := by decide +kernel
theorem d_LW_law_387 : decode Y_LW_law.2.1 387 = .ok (.aload_n 1, 1) := by decide +kernel
theorem d_LW_law_388 : decode Y_LW_law.2.1 388 = .ok (.aload_n 2, 1) := by decide +kernel
theorem d_LW_law_389 : decode Y_LW_law.2.1 389 = .ok (.iload 8, 2) := by decide +kernel
theorem d_LW_law_391 : decode Y_LW_law.2.1 391 = .ok (.bipush (11), 2) := by decide +kernel
theorem d_LW_law_393 : decode Y_LW_law.2.1 393 = .ok (.idiv, 1) := by decide +kernel
theorem d_LW_law_394 : decode Y_LW_law.2.1 394 = .ok (.invokestatic 216, 3) := by decide +kernel
theorem d_LW_law_397 : decode Y_LW_law.2.1 397 = .ok (.ifCond .eq (7), 3) := by decide +kernel
theorem d_LW_law_400 : decode Y_LW_law.2.1 400 = .ok (.iconst (1), 1) := by decide +kernel
theorem d_LW_law_401 : decode Y_LW_law.2.1 401 = .ok (.goto (4), 3) := by decide +kernel
theorem d_LW_law_404 : decode Y_LW_law.2.1 404 = .ok (.iconst (0), 1) := by decide +kernel
theorem d_LW_law_405 : decode Y_LW_law.2.1 405 = .ok (.istore 6, 2) := by decide +kernel
theorem d_LW_law_407 : decode Y_LW_law.2.1 407 = .ok (.iinc 7 (1), 3) := by decide +kernel
theorem d_LW_law_410 : decode Y_LW_law.2.1 410 = .ok (.goto (-154), 3) := by decide +kernel
theorem d_LW_law_413 : decode Y_LW_law.2.1 413 = .ok (.iload 6, 2) := by decide +kernel
theorem d_LW_law_415 : decode Y_LW_law.2.1 415 = .ok (.ireturn, 1) := by decide +kernel
def f_LW_law (z : zT) (D : zD) (r0 : Nat) : Option (Int32) := znew z D (.inr (.inr (0, [some none, some none, some none, some none, some none, none, none, some none, some none]))) (fun q1 z2 D3 => zcc (f_SF_init z2 D3 q1 ) (fun z4 D5 => znew z4 D5 (.inr (.inr (0, [some none, some none, some none, some none, some none, none, none, some none, some none]))) (fun q6 z7 D8 => zcc (f_SF_init z7 D8 q6 ) (fun z9 D10 => zjp (fun (r1 : Nat) (r2 : Nat) (x3 : Int32) (s0 : Int32) (D12 : zD) => zjp (zlp (fun (_ : Nat) (_ : Nat) (_ : Int32) (_ : Int32) (_ : Int32) (_ : zD) => none) (fun (j256 : Nat → Nat → Int32 → Int32 → Int32 → zD → Option (Int32)) (r1 : Nat) (r2 : Nat) (x3 : Int32) (x6 : Int32) (x7 : Int32) (D14 : zD) => zjp (fun (x6 : Int32) (D16 : zD) => zchk (x6 = 0 ∨ x6 = 1) (some x6)) (fun j413 => (if x3 ≤ x7 then j413 x6 D14 else (if x6 = 0 then j413 x6 D14 else zjp (fun (r1 : Nat) (r2 : Nat) (x3 : Int32) (x7 : Int32) (s0 : Int32) (D18 : zD) => zlet (x7 + (1 : Int32)) (fun v20 => j256 r1 r2 x3 s0 v20 D18)) (fun j405 => zjp (fun (r1 : Nat) (r2 : Nat) (x3 : Int32) (x7 : Int32) (D21 : zD) => j405 r1 r2 x3 x7 (0 : Int32) D21) (fun j404 => zci (f_LW_cell z9.2 D14 r0 ((3 : Int32) + x7)) (fun v23 D24 => zci (f_LW_act z9.2 D24 r1 v23) (fun v25 D26 => zci (f_LW_refuses z9.2 D26 r2 (zirem v23 (100000 : Int32))) (fun v28 D29 => (if v28 = 0 then j404 r1 r2 x3 x7 D29 else zci (f_LW_act z9.2 D29 r2 v23) (fun v31 D32 => (if v31 = v25 then zci (f_LW_refuses z9.2 D32 r2 (zirem v23 (1000 : Int32))) (fun v34 D35 => (if v34 = 0 then j404 r1 r2 x3 x7 D35 else zci (f_LW_alike z9.2 D35 r1 r2 (zirem v23 (5000 : Int32))) (fun v37 D38 => (if v37 = 0 then j404 r1 r2 x3 x7 D38 else zjp (fun (r1 : Nat) (r2 : Nat) (x3 : Int32) (x7 : Int32) (x8 : Int32) (D40 : zD) => zci (f_LW_goes z9.2 D40 r1 r2 (x8 / (7 : Int32))) (fun v42 D43 => (if v42 = 0 then j404 r1 r2 x3 x7 D43 else zjp (fun (r1 : Nat) (r2 : Nat) (x3 : Int32) (x7 : Int32) (D45 : zD) => j405 r1 r2 x3 x7 (1 : Int32) D45) (fun j400 => (if 0 < (zirem x7 (3 : Int32)) then j400 r1 r2 x3 x7 D43 else zci (f_LW_least z9.2 D43 r1 r2 (x8 / (11 : Int32))) (fun v47 D48 => (if v47 = 0 then j404 r1 r2 x3 x7 D48 else j400 r1 r2 x3 x7 D48))))))) (fun j367 => (if (zirem x7 (2 : Int32)) = 0 then zci (f_LW_holds z9.2 D38 r1 (v23 / (3 : Int32))) (fun v53 D54 => (if v53 = 0 then j404 r1 r2 x3 x7 D54 else j367 r1 r2 x3 x7 v23 D54)) else zci (f_LW_holds z9.2 D38 r2 (v23 / (3 : Int32))) (fun v50 D51 => (if v50 = 0 then j404 r1 r2 x3 x7 D51 else j367 r1 r2 x3 x7 v23 D51)))))))) else j404 r1 r2 x3 x7 D32)))))))))))) 32) (fun j256 => j256 r1 r2 x3 s0 (0 : Int32) D12)) (fun j251 => zjp (fun (r1 : Nat) (r2 : Nat) (x3 : Int32) (D56 : zD) => j251 r1 r2 x3 (0 : Int32) D56) (fun j250 => zci (f_LW_cell z9.2 D10 r0 (0 : Int32)) (fun v58 D59 => zlet ((12 : Int32) + (zirem v58 (19 : Int32))) (fun v60 => zci (f_LW_cell z9.2 D59 r0 (1 : Int32)) (fun v61 D62 => zci (f_LW_cell z9.2 D62 r0 (2 : Int32)) (fun v63 D64 => zci (f_LW_sirens z9.2 D64 q1 ((zirem v61 (61 : Int32)) - (30 : Int32)) ((zirem (v61 / (61 : Int32)) (61 : Int32)) - (30 : Int32)) ((1 : Int32) + (zirem (v61 / (3721 : Int32)) (5 : Int32))) ((zirem (v61 / (18605 : Int32)) (7 : Int32)) - (3 : Int32)) ((1 : Int32) + (zirem (v61 / (130235 : Int32)) (20 : Int32)))) (fun v65 D66 => (if v65 = 0 then zci (f_LW_sirens z9.2 D66 q6 ((zirem v61 (61 : Int32)) - (30 : Int32)) ((zirem (v61 / (61 : Int32)) (61 : Int32)) - (30 : Int32)) ((1 : Int32) + (zirem (v61 / (3721 : Int32)) (5 : Int32))) ((zirem (v61 / (18605 : Int32)) (7 : Int32)) - (3 : Int32)) ((1 : Int32) + (zirem (v61 / (130235 : Int32)) (20 : Int32)))) (fun v68 D69 => (if v68 = 0 then zci (f_LW_hearers z9.2 D69 q1 ((zirem v63 (81 : Int32)) - (40 : Int32)) ((zirem (v63 / (81 : Int32)) (81 : Int32)) - (40 : Int32)) ((zirem (v63 / (6561 : Int32)) (5 : Int32)) - (2 : Int32)) ((zirem (v63 / (32805 : Int32)) (5 : Int32)) - (2 : Int32))) (fun v71 D72 => (if v71 = 0 then zci (f_LW_hearers z9.2 D72 q6 ((zirem v63 (81 : Int32)) - (40 : Int32)) ((zirem (v63 / (81 : Int32)) (81 : Int32)) - (40 : Int32)) ((zirem (v63 / (6561 : Int32)) (5 : Int32)) - (2 : Int32)) ((zirem (v63 / (32805 : Int32)) (5 : Int32)) - (2 : Int32))) (fun v74 D75 => (if v74 = 0 then j251 q1 q6 v60 (1 : Int32) D75 else j250 q1 q6 v60 D75)) else j250 q1 q6 v60 D72)) else j250 q1 q6 v60 D69)) else j250 q1 q6 v60 D66))))))))))))
set_option maxHeartbeats 4000000 in
set_option maxRecDepth 100000 in
theorem c_LW_law (K : zK) (z : zT) (D : zD) (r0 : Nat) : zGO K Y_LW_law 13 600086 7301442 zqL (f_LW_law z D r0) 600086 7301442 z D 0 [(0, .ref r0)] [] := by
  unfold f_LW_law
  refine z_new (pc := 0) (kc2 := 65919) (ks2 := 420303) zc_SirenFair w_cl_LW_8 w_inst_SF w_ini_SF (z_defs (by decide +kernel)) (by decide) (by decide) d_LW_law_0 (fun q1 z2 D3 => ?_)
  refine z_dup (pc := 3) d_LW_law_3 rfl ?_
  refine z_callIc (pc := 4) (kc2 := 65170) (ks2 := 403416) [] lkI_LW_193 (c_SF_init z2 D3 q1 ) (by decide) (by decide) (by decide) rfl rfl (Nat.le_of_ble_eq_true rfl) d_LW_law_4 (fun z4 D5 => ?_)
  refine z_astore_n (pc := 7) d_LW_law_7 rfl (by decide) (lv' := [(1, .ref q1), (0, .ref r0)]) rfl ?_
  refine z_new (pc := 8) (kc2 := 65169) (ks2 := 403407) zc_SirenFair w_cl_LW_8 w_inst_SF w_ini_SF (z_defs (by decide +kernel)) (by decide) (by decide) d_LW_law_8 (fun q6 z7 D8 => ?_)
  refine z_dup (pc := 11) d_LW_law_11 rfl ?_
  refine z_callIc (pc := 12) (kc2 := 64420) (ks2 := 386520) [] lkI_LW_193 (c_SF_init z7 D8 q6 ) (by decide) (by decide) (by decide) rfl rfl (Nat.le_of_ble_eq_true rfl) d_LW_law_12 (fun z9 D10 => ?_)
  obtain ⟨m11, w9⟩ := z9
  refine z_jp (fun j251 : Nat → Nat → Int32 → Int32 → zD → Option (Int32) => ∀ (r1 : Nat) (r2 : Nat) (x3 : Int32) (s0 : Int32) (m13 : Nat) (D12 : zD), zGO K Y_LW_law 13 600086 7301442 zqL (j251 r1 r2 x3 s0 D12) 64416 386496 (m13, w9) D12 251 [(0, .ref r0), (1, .ref r1), (2, .ref r2), (3, .int x3)] [.int s0]) (fun r1 r2 x3 s0 m13 D12 => ?_) (fun j251 h251 => ?_)
  · refine z_jp (fun j256 : Nat → Nat → Int32 → Int32 → Int32 → zD → Option (Int32) => ∀ (r1 : Nat) (r2 : Nat) (x3 : Int32) (x6 : Int32) (x7 : Int32) (m15 : Nat) (D14 : zD), zGO K Y_LW_law 13 600086 7301442 zqL (j256 r1 r2 x3 x6 x7 D14) (32 * 2013 + 0) (32 * 12078 + 0) (m15, w9) D14 256 [(0, .ref r0), (1, .ref r1), (2, .ref r2), (3, .int x3), (6, .int x6), (7, .int x7)] []) (z_lpA (fun (n256 : Nat) (j256 : Nat → Nat → Int32 → Int32 → Int32 → zD → Option (Int32)) => ∀ (r1 : Nat) (r2 : Nat) (x3 : Int32) (x6 : Int32) (x7 : Int32) (m15 : Nat) (D14 : zD), zGO K Y_LW_law 13 600086 7301442 zqL (j256 r1 r2 x3 x6 x7 D14) (n256 * 2013 + 0) (n256 * 12078 + 0) (m15, w9) D14 256 [(0, .ref r0), (1, .ref r1), (2, .ref r2), (3, .int x3), (6, .int x6), (7, .int x7)] []) (fun _ _ _ _ _ _ _ => z_none) (fun n256 j256 h256 r1 r2 x3 x6 x7 m15 D14 => ?_) 32) (fun j256 h256 => ?_)
    · refine z_jp (fun j413 : Int32 → zD → Option (Int32) => ∀ (x6 : Int32) (m17 : Nat) (D16 : zD), zGO K Y_LW_law 13 600086 7301442 zqL (j413 x6 D16) 0 0 (m17, w9) D16 413 [(6, .int x6)] []) (fun x6 m17 D16 => ?_) (fun j413 h413 => ?_)
      · refine z_iload (pc := 413) d_LW_law_413 0 rfl ?_
        exact z_lretB (pc := 415) d_LW_law_415 rfl
      · refine z_iload (pc := 256) d_LW_law_256 5 rfl ?_
        refine z_iload_n (pc := 258) d_LW_law_258 rfl 3 rfl ?_
        refine z_icmp_ge (pc := 259) (tgt := 413) d_LW_law_259 (by decide) ?_ ?_
        · refine z_kc (by omega) (by omega) (z_sub [4] rfl (h413 x6 m15 D14))
        · refine z_iload (pc := 262) d_LW_law_262 4 rfl ?_
          refine z_if_eq (pc := 264) (tgt := 413) d_LW_law_264 (by decide) ?_ ?_
          · refine z_kc (by omega) (by omega) (z_sub [4] rfl (h413 x6 m15 D14))
          · refine z_jp (fun j405 : Nat → Nat → Int32 → Int32 → Int32 → zD → Option (Int32) => ∀ (r1 : Nat) (r2 : Nat) (x3 : Int32) (x7 : Int32) (s0 : Int32) (m19 : Nat) (D18 : zD), zGO K Y_LW_law 13 600086 7301442 zqL (j405 r1 r2 x3 x7 s0 D18) (n256 * 2013 + 0) (n256 * 12078 + 0) (m19, w9) D18 405 [(0, .ref r0), (1, .ref r1), (2, .ref r2), (3, .int x3), (7, .int x7)] [.int s0]) (fun r1 r2 x3 x7 s0 m19 D18 => ?_) (fun j405 h405 => ?_)
            · refine z_istore (pc := 405) d_LW_law_405 (by decide) (lv' := [(6, .int s0), (0, .ref r0), (1, .ref r1), (2, .ref r2), (3, .int x3), (7, .int x7)]) rfl ?_
              refine z_iincL (pc := 407) d_LW_law_407 ki_1 5 rfl (by decide) (fun v20 => z_lvc (lv2 := [(7, .int v20), (6, .int s0), (0, .ref r0), (1, .ref r1), (2, .ref r2), (3, .int x3)]) rfl ?_)
              refine z_goto (pc := 410) (tgt := 256) d_LW_law_410 (by decide) ?_
              refine z_kc (by omega) (by omega) (z_sub [2, 3, 4, 5, 1, 0] rfl (h256 r1 r2 x3 s0 v20 m19 D18))
            · refine z_jp (fun j404 : Nat → Nat → Int32 → Int32 → zD → Option (Int32) => ∀ (r1 : Nat) (r2 : Nat) (x3 : Int32) (x7 : Int32) (m22 : Nat) (D21 : zD), zGO K Y_LW_law 13 600086 7301442 zqL (j404 r1 r2 x3 x7 D21) (n256 * 2013 + 0) (n256 * 12078 + 0) (m22, w9) D21 404 [(0, .ref r0), (1, .ref r1), (2, .ref r2), (3, .int x3), (7, .int x7)] []) (fun r1 r2 x3 x7 m22 D21 => ?_) (fun j404 h404 => ?_)
              · refine z_iconst (pc := 404) d_LW_law_404 ki_0 ?_
                refine z_kc (by omega) (by omega) (z_sub [0, 1, 2, 3, 4] rfl (h405 r1 r2 x3 x7 (0 : Int32) m22 D21))
              · refine z_aload_n (pc := 267) d_LW_law_267 rfl 0 rfl ?_
                refine z_iconst (pc := 268) d_LW_law_268 ki_3 ?_
                refine z_iload (pc := 269) d_LW_law_269 5 rfl ?_
                refine z_iadd (pc := 271) d_LW_law_271 ?_
                refine z_callSi (pc := 272) [.ref r0, .int ((3 : Int32) + x7)] lkS_LW_194 (c_LW_cell (m15, w9) D14 r0 ((3 : Int32) + x7)) (by decide) rfl rfl (Nat.le_of_ble_eq_true rfl) d_LW_law_272 (fun v23 D24 => ?_)
                refine z_istore (pc := 275) d_LW_law_275 (by decide) (lv' := [(8, .int v23), (0, .ref r0), (1, .ref r1), (2, .ref r2), (3, .int x3), (6, .int x6), (7, .int x7)]) rfl ?_
                refine z_aload_n (pc := 277) d_LW_law_277 rfl 2 rfl ?_
                refine z_iload (pc := 278) d_LW_law_278 0 rfl ?_
                refine z_callYA (pc := 280) (kc2 := (n256 * 2013 + 2011)) (ks2 := (n256 * 12078 + 12066)) [.ref r1, .int v23] lkS_LW_198 (c_LW_act (m15, w9) D24 r1 v23) (by decide) (by omega) (by omega) rfl rfl (Nat.le_of_ble_eq_true rfl) d_LW_law_280 (fun v25 D26 m27 => ?_)
                refine z_istore (pc := 283) d_LW_law_283 (by decide) (lv' := [(9, .int v25), (8, .int v23), (0, .ref r0), (1, .ref r1), (2, .ref r2), (3, .int x3), (6, .int x6), (7, .int x7)]) rfl ?_
                refine z_aload_n (pc := 285) d_LW_law_285 rfl 4 rfl ?_
                refine z_iload (pc := 286) d_LW_law_286 1 rfl ?_
                refine z_ldc (pc := 288) w_k_LW_201 d_LW_law_288 ?_
                refine z_iremK (pc := 290) d_LW_law_290 (by decide) ?_
                refine z_callYA (pc := 291) (kc2 := (n256 * 2013 + 1962)) (ks2 := (n256 * 12078 + 11772)) [.ref r2, .int (zirem v23 (100000 : Int32))] lkS_LW_202 (c_LW_refuses (m27, w9) D26 r2 (zirem v23 (100000 : Int32))) (by decide) (by omega) (by omega) rfl rfl (Nat.le_of_ble_eq_true rfl) d_LW_law_291 (fun v28 D29 m30 => ?_)
                refine z_if_eq (pc := 294) (tgt := 404) d_LW_law_294 (by decide) ?_ ?_
                · refine z_kc (by omega) (by omega) (z_sub [2, 3, 4, 5, 7] rfl (h404 r1 r2 x3 x7 m30 D29))
                · refine z_aload_n (pc := 297) d_LW_law_297 rfl 4 rfl ?_
                  refine z_iload (pc := 298) d_LW_law_298 1 rfl ?_
                  refine z_callYA (pc := 300) (kc2 := (n256 * 2013 + 1960)) (ks2 := (n256 * 12078 + 11760)) [.ref r2, .int v23] lkS_LW_198 (c_LW_act (m30, w9) D29 r2 v23) (by decide) (by omega) (by omega) rfl rfl (Nat.le_of_ble_eq_true rfl) d_LW_law_300 (fun v31 D32 m33 => ?_)
                  refine z_iload (pc := 303) d_LW_law_303 0 rfl ?_
                  refine z_icmp_ne (pc := 305) (tgt := 404) d_LW_law_305 (by decide) ?_ ?_
                  · refine z_aload_n (pc := 308) d_LW_law_308 rfl 4 rfl ?_
                    refine z_iload (pc := 309) d_LW_law_309 1 rfl ?_
                    refine z_sipush (pc := 311) d_LW_law_311 ks_1000 ?_
                    refine z_iremK (pc := 314) d_LW_law_314 (by decide) ?_
                    refine z_callYA (pc := 315) (kc2 := (n256 * 2013 + 1911)) (ks2 := (n256 * 12078 + 11466)) [.ref r2, .int (zirem v23 (1000 : Int32))] lkS_LW_202 (c_LW_refuses (m33, w9) D32 r2 (zirem v23 (1000 : Int32))) (by decide) (by omega) (by omega) rfl rfl (Nat.le_of_ble_eq_true rfl) d_LW_law_315 (fun v34 D35 m36 => ?_)
                    refine z_if_eq (pc := 318) (tgt := 404) d_LW_law_318 (by decide) ?_ ?_
                    · refine z_kc (by omega) (by omega) (z_sub [2, 3, 4, 5, 7] rfl (h404 r1 r2 x3 x7 m36 D35))
                    · refine z_aload_n (pc := 321) d_LW_law_321 rfl 3 rfl ?_
                      refine z_aload_n (pc := 322) d_LW_law_322 rfl 4 rfl ?_
                      refine z_iload (pc := 323) d_LW_law_323 1 rfl ?_
                      refine z_sipush (pc := 325) d_LW_law_325 ks_5000 ?_
                      refine z_iremK (pc := 328) d_LW_law_328 (by decide) ?_
                      refine z_callYA (pc := 329) (kc2 := (n256 * 2013 + 1289)) (ks2 := (n256 * 12078 + 7734)) [.ref r1, .ref r2, .int (zirem v23 (5000 : Int32))] lkS_LW_206 (c_LW_alike (m36, w9) D35 r1 r2 (zirem v23 (5000 : Int32))) (by decide) (by omega) (by omega) rfl rfl (Nat.le_of_ble_eq_true rfl) d_LW_law_329 (fun v37 D38 m39 => ?_)
                      refine z_if_eq (pc := 332) (tgt := 404) d_LW_law_332 (by decide) ?_ ?_
                      · refine z_kc (by omega) (by omega) (z_sub [2, 3, 4, 5, 7] rfl (h404 r1 r2 x3 x7 m39 D38))
                      · refine z_jp (fun j367 : Nat → Nat → Int32 → Int32 → Int32 → zD → Option (Int32) => ∀ (r1 : Nat) (r2 : Nat) (x3 : Int32) (x7 : Int32) (x8 : Int32) (m41 : Nat) (D40 : zD), zGO K Y_LW_law 13 600086 7301442 zqL (j367 r1 r2 x3 x7 x8 D40) (n256 * 2013 + 458) (n256 * 12078 + 2748) (m41, w9) D40 367 [(0, .ref r0), (1, .ref r1), (2, .ref r2), (3, .int x3), (7, .int x7), (8, .int x8)] []) (fun r1 r2 x3 x7 x8 m41 D40 => ?_) (fun j367 h367 => ?_)
                        · refine z_aload_n (pc := 367) d_LW_law_367 rfl 1 rfl ?_
                          refine z_aload_n (pc := 368) d_LW_law_368 rfl 2 rfl ?_
                          refine z_iload (pc := 369) d_LW_law_369 5 rfl ?_
                          refine z_bipush (pc := 371) d_LW_law_371 kb_7 ?_
                          refine z_idivK (pc := 373) d_LW_law_373 (by decide) ?_
                          refine z_callYA (pc := 374) (kc2 := (n256 * 2013 + 323)) (ks2 := (n256 * 12078 + 1938)) [.ref r1, .ref r2, .int (x8 / (7 : Int32))] lkS_LW_213 (c_LW_goes (m41, w9) D40 r1 r2 (x8 / (7 : Int32))) (by decide) (by omega) (by omega) rfl rfl (Nat.le_of_ble_eq_true rfl) d_LW_law_374 (fun v42 D43 m44 => ?_)
                          refine z_if_eq (pc := 377) (tgt := 404) d_LW_law_377 (by decide) ?_ ?_
                          · refine z_kc (by omega) (by omega) (z_sub [0, 1, 2, 3, 4] rfl (h404 r1 r2 x3 x7 m44 D43))
                          · refine z_jp (fun j400 : Nat → Nat → Int32 → Int32 → zD → Option (Int32) => ∀ (r1 : Nat) (r2 : Nat) (x3 : Int32) (x7 : Int32) (m46 : Nat) (D45 : zD), zGO K Y_LW_law 13 600086 7301442 zqL (j400 r1 r2 x3 x7 D45) (n256 * 2013 + 0) (n256 * 12078 + 0) (m46, w9) D45 400 [(0, .ref r0), (1, .ref r1), (2, .ref r2), (3, .int x3), (7, .int x7)] []) (fun r1 r2 x3 x7 m46 D45 => ?_) (fun j400 h400 => ?_)
                            · refine z_iconst (pc := 400) d_LW_law_400 ki_1 ?_
                              refine z_goto (pc := 401) (tgt := 405) d_LW_law_401 (by decide) ?_
                              refine z_kc (by omega) (by omega) (z_sub [0, 1, 2, 3, 4] rfl (h405 r1 r2 x3 x7 (1 : Int32) m46 D45))
                            · refine z_iload (pc := 380) d_LW_law_380 4 rfl ?_
                              refine z_iconst (pc := 382) d_LW_law_382 ki_3 ?_
                              refine z_iremK (pc := 383) d_LW_law_383 (by decide) ?_
                              refine z_if_gt (pc := 384) (tgt := 400) d_LW_law_384 (by decide) ?_ ?_
                              · refine z_kc (by omega) (by omega) (z_sub [0, 1, 2, 3, 4] rfl (h400 r1 r2 x3 x7 m44 D43))
                              · refine z_aload_n (pc := 387) d_LW_law_387 rfl 1 rfl ?_
                                refine z_aload_n (pc := 388) d_LW_law_388 rfl 2 rfl ?_
                                refine z_iload (pc := 389) d_LW_law_389 5 rfl ?_
                                refine z_bipush (pc := 391) d_LW_law_391 kb_11 ?_
                                refine z_idivK (pc := 393) d_LW_law_393 (by decide) ?_
                                refine z_callYA (pc := 394) (kc2 := (n256 * 2013 + 0)) (ks2 := (n256 * 12078 + 0)) [.ref r1, .ref r2, .int (x8 / (11 : Int32))] lkS_LW_216 (c_LW_least (m44, w9) D43 r1 r2 (x8 / (11 : Int32))) (by decide) (by omega) (by omega) rfl rfl (Nat.le_of_ble_eq_true rfl) d_LW_law_394 (fun v47 D48 m49 => ?_)
                                refine z_if_eq (pc := 397) (tgt := 404) d_LW_law_397 (by decide) ?_ ?_
                                · refine z_kc (by omega) (by omega) (z_sub [0, 1, 2, 3, 4] rfl (h404 r1 r2 x3 x7 m49 D48))
                                · refine z_kc (by omega) (by omega) (z_sub [0, 1, 2, 3, 4] rfl (h400 r1 r2 x3 x7 m49 D48))
                        · refine z_iload (pc := 335) d_LW_law_335 7 rfl ?_
                          refine z_iconst (pc := 337) d_LW_law_337 ki_2 ?_
                          refine z_iremK (pc := 338) d_LW_law_338 (by decide) ?_
                          refine z_if_ne (pc := 339) (tgt := 356) d_LW_law_339 (by decide) ?_ ?_
                          · refine z_aload_n (pc := 342) d_LW_law_342 rfl 3 rfl ?_
                            refine z_iload (pc := 343) d_LW_law_343 1 rfl ?_
                            refine z_iconst (pc := 345) d_LW_law_345 ki_3 ?_
                            refine z_idivK (pc := 346) d_LW_law_346 (by decide) ?_
                            refine z_callYA (pc := 347) (kc2 := (n256 * 2013 + 458)) (ks2 := (n256 * 12078 + 2748)) [.ref r1, .int (v23 / (3 : Int32))] lkS_LW_210 (c_LW_holds (m39, w9) D38 r1 (v23 / (3 : Int32))) (by decide) (by omega) (by omega) rfl rfl (Nat.le_of_ble_eq_true rfl) d_LW_law_347 (fun v53 D54 m55 => ?_)
                            refine z_if_eq (pc := 350) (tgt := 404) d_LW_law_350 (by decide) ?_ ?_
                            · refine z_kc (by omega) (by omega) (z_sub [2, 3, 4, 5, 7] rfl (h404 r1 r2 x3 x7 m55 D54))
                            · refine z_goto (pc := 353) (tgt := 367) d_LW_law_353 (by decide) ?_
                              refine z_kc (by omega) (by omega) (z_sub [2, 3, 4, 5, 7, 1] rfl (h367 r1 r2 x3 x7 v23 m55 D54))
                          · refine z_aload_n (pc := 356) d_LW_law_356 rfl 4 rfl ?_
                            refine z_iload (pc := 357) d_LW_law_357 1 rfl ?_
                            refine z_iconst (pc := 359) d_LW_law_359 ki_3 ?_
                            refine z_idivK (pc := 360) d_LW_law_360 (by decide) ?_
                            refine z_callYA (pc := 361) (kc2 := (n256 * 2013 + 458)) (ks2 := (n256 * 12078 + 2748)) [.ref r2, .int (v23 / (3 : Int32))] lkS_LW_210 (c_LW_holds (m39, w9) D38 r2 (v23 / (3 : Int32))) (by decide) (by omega) (by omega) rfl rfl (Nat.le_of_ble_eq_true rfl) d_LW_law_361 (fun v50 D51 m52 => ?_)
                            refine z_if_eq (pc := 364) (tgt := 404) d_LW_law_364 (by decide) ?_ ?_
                            · refine z_kc (by omega) (by omega) (z_sub [2, 3, 4, 5, 7] rfl (h404 r1 r2 x3 x7 m52 D51))
                            · refine z_kc (by omega) (by omega) (z_sub [2, 3, 4, 5, 7, 1] rfl (h367 r1 r2 x3 x7 v23 m52 D51))
                  · refine z_kc (by omega) (by omega) (z_sub [2, 3, 4, 5, 7] rfl (h404 r1 r2 x3 x7 m33 D32))
    · refine z_istore (pc := 251) d_LW_law_251 (by decide) (lv' := [(6, .int s0), (0, .ref r0), (1, .ref r1), (2, .ref r2), (3, .int x3)]) rfl ?_
      refine z_iconst (pc := 253) d_LW_law_253 ki_0 ?_
      refine z_istore (pc := 254) d_LW_law_254 (by decide) (lv' := [(7, .int (0 : Int32)), (6, .int s0), (0, .ref r0), (1, .ref r1), (2, .ref r2), (3, .int x3)]) rfl ?_
      refine z_kc (by omega) (by omega) (z_sub [2, 3, 4, 5, 1, 0] rfl (h256 r1 r2 x3 s0 (0 : Int32) m13 D12))
  · refine z_jp (fun j250 : Nat → Nat → Int32 → zD → Option (Int32) => ∀ (r1 : Nat) (r2 : Nat) (x3 : Int32) (m57 : Nat) (D56 : zD), zGO K Y_LW_law 13 600086 7301442 zqL (j250 r1 r2 x3 D56) 64416 386496 (m57, w9) D56 250 [(0, .ref r0), (1, .ref r1), (2, .ref r2), (3, .int x3)] []) (fun r1 r2 x3 m57 D56 => ?_) (fun j250 h250 => ?_)
    · refine z_iconst (pc := 250) d_LW_law_250 ki_0 ?_
      refine z_kc (by omega) (by omega) (z_sub [0, 1, 2, 3] rfl (h251 r1 r2 x3 (0 : Int32) m57 D56))
    · refine z_astore_n (pc := 15) d_LW_law_15 rfl (by decide) (lv' := [(2, .ref q6), (1, .ref q1), (0, .ref r0)]) rfl ?_
      refine z_bipush (pc := 16) d_LW_law_16 kb_12 ?_
      refine z_aload_n (pc := 18) d_LW_law_18 rfl 2 rfl ?_
      refine z_iconst (pc := 19) d_LW_law_19 ki_0 ?_
      refine z_callSi (pc := 20) [.ref r0, .int (0 : Int32)] lkS_LW_194 (c_LW_cell (m11, w9) D10 r0 (0 : Int32)) (by decide) rfl rfl (Nat.le_of_ble_eq_true rfl) d_LW_law_20 (fun v58 D59 => ?_)
      refine z_bipush (pc := 23) d_LW_law_23 kb_19 ?_
      refine z_iremK (pc := 25) d_LW_law_25 (by decide) ?_
      refine z_iadd (pc := 26) d_LW_law_26 ?_
      refine z_leti (fun v60 => ?_)
      refine z_istore_n (pc := 27) d_LW_law_27 rfl (by decide) (lv' := [(3, .int v60), (2, .ref q6), (1, .ref q1), (0, .ref r0)]) rfl ?_
      refine z_aload_n (pc := 28) d_LW_law_28 rfl 3 rfl ?_
      refine z_iconst (pc := 29) d_LW_law_29 ki_1 ?_
      refine z_callSi (pc := 30) [.ref r0, .int (1 : Int32)] lkS_LW_194 (c_LW_cell (m11, w9) D59 r0 (1 : Int32)) (by decide) rfl rfl (Nat.le_of_ble_eq_true rfl) d_LW_law_30 (fun v61 D62 => ?_)
      refine z_istore (pc := 33) d_LW_law_33 (by decide) (lv' := [(4, .int v61), (3, .int v60), (2, .ref q6), (1, .ref q1), (0, .ref r0)]) rfl ?_
      refine z_aload_n (pc := 35) d_LW_law_35 rfl 4 rfl ?_
      refine z_iconst (pc := 36) d_LW_law_36 ki_2 ?_
      refine z_callSi (pc := 37) [.ref r0, .int (2 : Int32)] lkS_LW_194 (c_LW_cell (m11, w9) D62 r0 (2 : Int32)) (by decide) rfl rfl (Nat.le_of_ble_eq_true rfl) d_LW_law_37 (fun v63 D64 => ?_)
      refine z_istore (pc := 40) d_LW_law_40 (by decide) (lv' := [(5, .int v63), (4, .int v61), (3, .int v60), (2, .ref q6), (1, .ref q1), (0, .ref r0)]) rfl ?_
      refine z_aload_n (pc := 42) d_LW_law_42 rfl 4 rfl ?_
      refine z_iload (pc := 43) d_LW_law_43 1 rfl ?_
      refine z_bipush (pc := 45) d_LW_law_45 kb_61 ?_
      refine z_iremK (pc := 47) d_LW_law_47 (by decide) ?_
      refine z_bipush (pc := 48) d_LW_law_48 kb_30 ?_
      refine z_isub (pc := 50) d_LW_law_50 ?_
      refine z_iload (pc := 51) d_LW_law_51 1 rfl ?_
      refine z_bipush (pc := 53) d_LW_law_53 kb_61 ?_
      refine z_idivK (pc := 55) d_LW_law_55 (by decide) ?_
      refine z_bipush (pc := 56) d_LW_law_56 kb_61 ?_
      refine z_iremK (pc := 58) d_LW_law_58 (by decide) ?_
      refine z_bipush (pc := 59) d_LW_law_59 kb_30 ?_
      refine z_isub (pc := 61) d_LW_law_61 ?_
      refine z_iconst (pc := 62) d_LW_law_62 ki_1 ?_
      refine z_iload (pc := 63) d_LW_law_63 1 rfl ?_
      refine z_sipush (pc := 65) d_LW_law_65 ks_3721 ?_
      refine z_idivK (pc := 68) d_LW_law_68 (by decide) ?_
      refine z_iconst (pc := 69) d_LW_law_69 ki_5 ?_
      refine z_iremK (pc := 70) d_LW_law_70 (by decide) ?_
      refine z_iadd (pc := 71) d_LW_law_71 ?_
      refine z_iload (pc := 72) d_LW_law_72 1 rfl ?_
      refine z_sipush (pc := 74) d_LW_law_74 ks_18605 ?_
      refine z_idivK (pc := 77) d_LW_law_77 (by decide) ?_
      refine z_bipush (pc := 78) d_LW_law_78 kb_7 ?_
      refine z_iremK (pc := 80) d_LW_law_80 (by decide) ?_
      refine z_iconst (pc := 81) d_LW_law_81 ki_3 ?_
      refine z_isub (pc := 82) d_LW_law_82 ?_
      refine z_iconst (pc := 83) d_LW_law_83 ki_1 ?_
      refine z_iload (pc := 84) d_LW_law_84 1 rfl ?_
      refine z_ldc (pc := 86) w_k_LW_191 d_LW_law_86 ?_
      refine z_idivK (pc := 88) d_LW_law_88 (by decide) ?_
      refine z_bipush (pc := 89) d_LW_law_89 kb_20 ?_
      refine z_iremK (pc := 91) d_LW_law_91 (by decide) ?_
      refine z_iadd (pc := 92) d_LW_law_92 ?_
      refine z_callYH (pc := 93) (kc2 := 64419) (ks2 := 386514) [.ref q1, .int ((zirem v61 (61 : Int32)) - (30 : Int32)), .int ((zirem (v61 / (61 : Int32)) (61 : Int32)) - (30 : Int32)), .int ((1 : Int32) + (zirem (v61 / (3721 : Int32)) (5 : Int32))), .int ((zirem (v61 / (18605 : Int32)) (7 : Int32)) - (3 : Int32)), .int ((1 : Int32) + (zirem (v61 / (130235 : Int32)) (20 : Int32)))] lkH_LW_160 (c_LW_sirens (m11, w9) D64 q1 ((zirem v61 (61 : Int32)) - (30 : Int32)) ((zirem (v61 / (61 : Int32)) (61 : Int32)) - (30 : Int32)) ((1 : Int32) + (zirem (v61 / (3721 : Int32)) (5 : Int32))) ((zirem (v61 / (18605 : Int32)) (7 : Int32)) - (3 : Int32)) ((1 : Int32) + (zirem (v61 / (130235 : Int32)) (20 : Int32)))) (by decide) (by omega) (by omega) rfl rfl (Nat.le_of_ble_eq_true rfl) d_LW_law_93 (fun v65 D66 m67 => ?_)
      refine z_if_ne (pc := 96) (tgt := 250) d_LW_law_96 (by decide) ?_ ?_
      · refine z_aload_n (pc := 99) d_LW_law_99 rfl 3 rfl ?_
        refine z_iload (pc := 100) d_LW_law_100 1 rfl ?_
        refine z_bipush (pc := 102) d_LW_law_102 kb_61 ?_
        refine z_iremK (pc := 104) d_LW_law_104 (by decide) ?_
        refine z_bipush (pc := 105) d_LW_law_105 kb_30 ?_
        refine z_isub (pc := 107) d_LW_law_107 ?_
        refine z_iload (pc := 108) d_LW_law_108 1 rfl ?_
        refine z_bipush (pc := 110) d_LW_law_110 kb_61 ?_
        refine z_idivK (pc := 112) d_LW_law_112 (by decide) ?_
        refine z_bipush (pc := 113) d_LW_law_113 kb_61 ?_
        refine z_iremK (pc := 115) d_LW_law_115 (by decide) ?_
        refine z_bipush (pc := 116) d_LW_law_116 kb_30 ?_
        refine z_isub (pc := 118) d_LW_law_118 ?_
        refine z_iconst (pc := 119) d_LW_law_119 ki_1 ?_
        refine z_iload (pc := 120) d_LW_law_120 1 rfl ?_
        refine z_sipush (pc := 122) d_LW_law_122 ks_3721 ?_
        refine z_idivK (pc := 125) d_LW_law_125 (by decide) ?_
        refine z_iconst (pc := 126) d_LW_law_126 ki_5 ?_
        refine z_iremK (pc := 127) d_LW_law_127 (by decide) ?_
        refine z_iadd (pc := 128) d_LW_law_128 ?_
        refine z_iload (pc := 129) d_LW_law_129 1 rfl ?_
        refine z_sipush (pc := 131) d_LW_law_131 ks_18605 ?_
        refine z_idivK (pc := 134) d_LW_law_134 (by decide) ?_
        refine z_bipush (pc := 135) d_LW_law_135 kb_7 ?_
        refine z_iremK (pc := 137) d_LW_law_137 (by decide) ?_
        refine z_iconst (pc := 138) d_LW_law_138 ki_3 ?_
        refine z_isub (pc := 139) d_LW_law_139 ?_
        refine z_iconst (pc := 140) d_LW_law_140 ki_1 ?_
        refine z_iload (pc := 141) d_LW_law_141 1 rfl ?_
        refine z_ldc (pc := 143) w_k_LW_191 d_LW_law_143 ?_
        refine z_idivK (pc := 145) d_LW_law_145 (by decide) ?_
        refine z_bipush (pc := 146) d_LW_law_146 kb_20 ?_
        refine z_iremK (pc := 148) d_LW_law_148 (by decide) ?_
        refine z_iadd (pc := 149) d_LW_law_149 ?_
        refine z_callYH (pc := 150) (kc2 := 64418) (ks2 := 386508) [.ref q6, .int ((zirem v61 (61 : Int32)) - (30 : Int32)), .int ((zirem (v61 / (61 : Int32)) (61 : Int32)) - (30 : Int32)), .int ((1 : Int32) + (zirem (v61 / (3721 : Int32)) (5 : Int32))), .int ((zirem (v61 / (18605 : Int32)) (7 : Int32)) - (3 : Int32)), .int ((1 : Int32) + (zirem (v61 / (130235 : Int32)) (20 : Int32)))] lkH_LW_160 (c_LW_sirens (m67, w9) D66 q6 ((zirem v61 (61 : Int32)) - (30 : Int32)) ((zirem (v61 / (61 : Int32)) (61 : Int32)) - (30 : Int32)) ((1 : Int32) + (zirem (v61 / (3721 : Int32)) (5 : Int32))) ((zirem (v61 / (18605 : Int32)) (7 : Int32)) - (3 : Int32)) ((1 : Int32) + (zirem (v61 / (130235 : Int32)) (20 : Int32)))) (by decide) (by omega) (by omega) rfl rfl (Nat.le_of_ble_eq_true rfl) d_LW_law_150 (fun v68 D69 m70 => ?_)
        refine z_if_ne (pc := 153) (tgt := 250) d_LW_law_153 (by decide) ?_ ?_
        · refine z_aload_n (pc := 156) d_LW_law_156 rfl 4 rfl ?_
          refine z_iload (pc := 157) d_LW_law_157 0 rfl ?_
          refine z_bipush (pc := 159) d_LW_law_159 kb_81 ?_
          refine z_iremK (pc := 161) d_LW_law_161 (by decide) ?_
          refine z_bipush (pc := 162) d_LW_law_162 kb_40 ?_
          refine z_isub (pc := 164) d_LW_law_164 ?_
          refine z_iload (pc := 165) d_LW_law_165 0 rfl ?_
          refine z_bipush (pc := 167) d_LW_law_167 kb_81 ?_
          refine z_idivK (pc := 169) d_LW_law_169 (by decide) ?_
          refine z_bipush (pc := 170) d_LW_law_170 kb_81 ?_
          refine z_iremK (pc := 172) d_LW_law_172 (by decide) ?_
          refine z_bipush (pc := 173) d_LW_law_173 kb_40 ?_
          refine z_isub (pc := 175) d_LW_law_175 ?_
          refine z_iload (pc := 176) d_LW_law_176 0 rfl ?_
          refine z_sipush (pc := 178) d_LW_law_178 ks_6561 ?_
          refine z_idivK (pc := 181) d_LW_law_181 (by decide) ?_
          refine z_iconst (pc := 182) d_LW_law_182 ki_5 ?_
          refine z_iremK (pc := 183) d_LW_law_183 (by decide) ?_
          refine z_iconst (pc := 184) d_LW_law_184 ki_2 ?_
          refine z_isub (pc := 185) d_LW_law_185 ?_
          refine z_iload (pc := 186) d_LW_law_186 0 rfl ?_
          refine z_ldc (pc := 188) w_k_LW_192 d_LW_law_188 ?_
          refine z_idivK (pc := 190) d_LW_law_190 (by decide) ?_
          refine z_iconst (pc := 191) d_LW_law_191 ki_5 ?_
          refine z_iremK (pc := 192) d_LW_law_192 (by decide) ?_
          refine z_iconst (pc := 193) d_LW_law_193 ki_2 ?_
          refine z_isub (pc := 194) d_LW_law_194 ?_
          refine z_callYH (pc := 195) (kc2 := 64417) (ks2 := 386502) [.ref q1, .int ((zirem v63 (81 : Int32)) - (40 : Int32)), .int ((zirem (v63 / (81 : Int32)) (81 : Int32)) - (40 : Int32)), .int ((zirem (v63 / (6561 : Int32)) (5 : Int32)) - (2 : Int32)), .int ((zirem (v63 / (32805 : Int32)) (5 : Int32)) - (2 : Int32))] lkH_LW_164 (c_LW_hearers (m70, w9) D69 q1 ((zirem v63 (81 : Int32)) - (40 : Int32)) ((zirem (v63 / (81 : Int32)) (81 : Int32)) - (40 : Int32)) ((zirem (v63 / (6561 : Int32)) (5 : Int32)) - (2 : Int32)) ((zirem (v63 / (32805 : Int32)) (5 : Int32)) - (2 : Int32))) (by decide) (by omega) (by omega) rfl rfl (Nat.le_of_ble_eq_true rfl) d_LW_law_195 (fun v71 D72 m73 => ?_)
          refine z_if_ne (pc := 198) (tgt := 250) d_LW_law_198 (by decide) ?_ ?_
          · refine z_aload_n (pc := 201) d_LW_law_201 rfl 3 rfl ?_
            refine z_iload (pc := 202) d_LW_law_202 0 rfl ?_
            refine z_bipush (pc := 204) d_LW_law_204 kb_81 ?_
            refine z_iremK (pc := 206) d_LW_law_206 (by decide) ?_
            refine z_bipush (pc := 207) d_LW_law_207 kb_40 ?_
            refine z_isub (pc := 209) d_LW_law_209 ?_
            refine z_iload (pc := 210) d_LW_law_210 0 rfl ?_
            refine z_bipush (pc := 212) d_LW_law_212 kb_81 ?_
            refine z_idivK (pc := 214) d_LW_law_214 (by decide) ?_
            refine z_bipush (pc := 215) d_LW_law_215 kb_81 ?_
            refine z_iremK (pc := 217) d_LW_law_217 (by decide) ?_
            refine z_bipush (pc := 218) d_LW_law_218 kb_40 ?_
            refine z_isub (pc := 220) d_LW_law_220 ?_
            refine z_iload (pc := 221) d_LW_law_221 0 rfl ?_
            refine z_sipush (pc := 223) d_LW_law_223 ks_6561 ?_
            refine z_idivK (pc := 226) d_LW_law_226 (by decide) ?_
            refine z_iconst (pc := 227) d_LW_law_227 ki_5 ?_
            refine z_iremK (pc := 228) d_LW_law_228 (by decide) ?_
            refine z_iconst (pc := 229) d_LW_law_229 ki_2 ?_
            refine z_isub (pc := 230) d_LW_law_230 ?_
            refine z_iload (pc := 231) d_LW_law_231 0 rfl ?_
            refine z_ldc (pc := 233) w_k_LW_192 d_LW_law_233 ?_
            refine z_idivK (pc := 235) d_LW_law_235 (by decide) ?_
            refine z_iconst (pc := 236) d_LW_law_236 ki_5 ?_
            refine z_iremK (pc := 237) d_LW_law_237 (by decide) ?_
            refine z_iconst (pc := 238) d_LW_law_238 ki_2 ?_
            refine z_isub (pc := 239) d_LW_law_239 ?_
            refine z_callYH (pc := 240) (kc2 := 64416) (ks2 := 386496) [.ref q6, .int ((zirem v63 (81 : Int32)) - (40 : Int32)), .int ((zirem (v63 / (81 : Int32)) (81 : Int32)) - (40 : Int32)), .int ((zirem (v63 / (6561 : Int32)) (5 : Int32)) - (2 : Int32)), .int ((zirem (v63 / (32805 : Int32)) (5 : Int32)) - (2 : Int32))] lkH_LW_164 (c_LW_hearers (m73, w9) D72 q6 ((zirem v63 (81 : Int32)) - (40 : Int32)) ((zirem (v63 / (81 : Int32)) (81 : Int32)) - (40 : Int32)) ((zirem (v63 / (6561 : Int32)) (5 : Int32)) - (2 : Int32)) ((zirem (v63 / (32805 : Int32)) (5 : Int32)) - (2 : Int32))) (by decide) (by omega) (by omega) rfl rfl (Nat.le_of_ble_eq_true rfl) d_LW_law_240 (fun v74 D75 m76 => ?_)
            refine z_if_ne (pc := 243) (tgt := 250) d_LW_law_243 (by decide) ?_ ?_
            · refine z_iconst (pc := 246) d_LW_law_246 ki_1 ?_
              refine z_goto (pc := 247) (tgt := 251) d_LW_law_247 (by decide) ?_
              refine z_kc (by omega) (by omega) (z_sub [5, 4, 3, 2] rfl (h251 q1 q6 v60 (1 : Int32) m76 D75))
            · refine z_kc (by omega) (by omega) (z_sub [5, 4, 3, 2] rfl (h250 q1 q6 v60 m76 D75))
          · refine z_kc (by omega) (by omega) (z_sub [5, 4, 3, 2] rfl (h250 q1 q6 v60 m73 D72))
        · refine z_kc (by omega) (by omega) (z_sub [5, 4, 3, 2] rfl (h250 q1 q6 v60 m70 D69))
      · refine z_kc (by omega) (by omega) (z_sub [5, 4, 3, 2] rfl (h250 q1 q6 v60 m67 D66))
