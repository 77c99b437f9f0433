def Y_LW_holds : zY := (⟨"SirenFairLaw", "holds", "(LSirenFair;I)Z"⟩, method_30_code, 17, some .boolean, [])
theorem w_c_SF_quietIn : Cond.code Y_SF_quietIn.1 Y_SF_quietIn.2.1 Y_SF_quietIn.2.2.1 Y_SF_quietIn.2.2.2.1 ∈ zWd := zin 943 (by decide +kernel) rfl
theorem lk_SF_quietIn : zlk Y_SF_quietIn 0 := ⟨w_c_SF_quietIn, w_ini_SF, by decide +kernel, by decide +kernel, by decide⟩
theorem w_ml_LW_188 : Cond.methodLink "SirenFairLaw" 188 Y_SF_quietIn.1 ∈ zWd := zin 940 (by decide +kernel) rfl
theorem w_im_SF_quietIn : Cond.instanceMethod Y_SF_quietIn.1 ∈ zWd := zin 941 (by decide +kernel) rfl
theorem w_sel_SF_quietIn : Cond.selects "SirenFair" Y_SF_quietIn.1 Y_SF_quietIn.1 ∈ zWd := zin 942 (by decide +kernel) rfl
theorem lkV_LW_188 : zlkV "SirenFairLaw" 188 Y_SF_quietIn 0 := ⟨lk_SF_quietIn, w_ml_LW_188, w_im_SF_quietIn, w_sel_SF_quietIn⟩
theorem w_c_LW_size : Cond.code Y_LW_size.1 Y_LW_size.2.1 Y_LW_size.2.2.1 Y_LW_size.2.2.2.1 ∈ zWd := zin 939 (by decide +kernel) rfl
theorem lk_LW_size : zlk Y_LW_size 1 := ⟨w_c_LW_size, w_ini_LW, by decide +kernel, by decide +kernel, by decide⟩
theorem w_ml_LW_185 : Cond.methodLink "SirenFairLaw" 185 Y_LW_size.1 ∈ zWd := zin 937 (by decide +kernel) rfl
theorem w_st_LW_size : Cond.static Y_LW_size.1 ∈ zWd := zin 938 (by decide +kernel) rfl
theorem lkS_LW_185 : zlkS "SirenFairLaw" 185 Y_LW_size 1 := ⟨lk_LW_size, w_ml_LW_185, w_st_LW_size⟩
theorem d_LW_holds_0 : decode Y_LW_holds.2.1 0 = .ok (.aload_n 0, 1) := by decide +kernel
theorem d_LW_holds_1 : decode Y_LW_holds.2.1 1 = .ok (.iconst (2), 1) := by decide +kernel
theorem d_LW_holds_2 : decode Y_LW_holds.2.1 2 = .ok (.iconst (0), 1) := by decide +kernel
theorem d_LW_holds_3 : decode Y_LW_holds.2.1 3 = .ok (.iconst (0), 1) := by decide +kernel
theorem d_LW_holds_4 : decode Y_LW_holds.2.1 4 = .ok (.iconst (0), 1) := by decide +kernel
theorem d_LW_holds_5 : decode Y_LW_holds.2.1 5 = .ok (.invokestatic 156, 3) := by decide +kernel
theorem d_LW_holds_8 : decode Y_LW_holds.2.1 8 = .ok (.istore_n 2, 1) := by decide +kernel
theorem d_LW_holds_9 : decode Y_LW_holds.2.1 9 = .ok (.aload_n 0, 1) := by decide +kernel
theorem d_LW_holds_10 : decode Y_LW_holds.2.1 10 = .ok (.iconst (2), 1) := by decide +kernel
theorem d_LW_holds_11 : decode Y_LW_holds.2.1 11 = .ok (.iconst (1), 1) := by decide +kernel
theorem d_LW_holds_12 : decode Y_LW_holds.2.1 12 = .ok (.iconst (0), 1) := by decide +kernel
theorem d_LW_holds_13 : decode Y_LW_holds.2.1 13 = .ok (.iconst (0), 1) := by decide +kernel
theorem d_LW_holds_14 : decode Y_LW_holds.2.1 14 = .ok (.invokestatic 156, 3) := by decide +kernel
theorem d_LW_holds_17 : decode Y_LW_holds.2.1 17 = .ok (.istore_n 3, 1) := by decide +kernel
theorem d_LW_holds_18 : decode Y_LW_holds.2.1 18 = .ok (.aload_n 0, 1) := by decide +kernel
theorem d_LW_holds_19 : decode Y_LW_holds.2.1 19 = .ok (.iconst (2), 1) := by decide +kernel
theorem d_LW_holds_20 : decode Y_LW_holds.2.1 20 = .ok (.iconst (4), 1) := by decide +kernel
theorem d_LW_holds_21 : decode Y_LW_holds.2.1 21 = .ok (.iconst (0), 1) := by decide +kernel
theorem d_LW_holds_22 : decode Y_LW_holds.2.1 22 = .ok (.iconst (0), 1) := by decide +kernel
theorem d_LW_holds_23 : decode Y_LW_holds.2.1 23 = .ok (.invokestatic 156, 3) := by decide +kernel
theorem d_LW_holds_26 : decode Y_LW_holds.2.1 26 = .ok (.istore 4, 2) := by decide +kernel
theorem d_LW_holds_28 : decode Y_LW_holds.2.1 28 = .ok (.aload_n 0, 1) := by decide +kernel
theorem d_LW_holds_29 : decode Y_LW_holds.2.1 29 = .ok (.iconst (2), 1) := by decide +kernel
theorem d_LW_holds_30 : decode Y_LW_holds.2.1 30 = .ok (.iconst (3), 1) := by decide +kernel
theorem d_LW_holds_31 : decode Y_LW_holds.2.1 31 = .ok (.iconst (0), 1) := by decide +kernel
theorem d_LW_holds_32 : decode Y_LW_holds.2.1 32 = .ok (.iconst (0), 1) := by decide +kernel
theorem d_LW_holds_33 : decode Y_LW_holds.2.1 33 = .ok (.invokestatic 156, 3) := by decide +kernel
theorem d_LW_holds_36 : decode Y_LW_holds.2.1 36 = .ok (.istore 5, 2) := by decide +kernel
theorem d_LW_holds_38 : decode Y_LW_holds.2.1 38 = .ok (.iload_n 2, 1) := by decide +kernel
theorem d_LW_holds_39 : decode Y_LW_holds.2.1 39 = .ok (.iconst (4), 1) := by decide +kernel
theorem d_LW_holds_40 : decode Y_LW_holds.2.1 40 = .ok (.if_icmp .gt (32), 3) := by decide +kernel
theorem d_LW_holds_43 : decode Y_LW_holds.2.1 43 = .ok (.iload_n 3, 1) := by decide +kernel
theorem d_LW_holds_44 : decode Y_LW_holds.2.1 44 = .ok (.iconst (4), 1) := by decide +kernel
theorem d_LW_holds_45 : decode Y_LW_holds.2.1 45 = .ok (.if_icmp .gt (27), 3) := by decide +kernel
theorem d_LW_holds_48 : decode Y_LW_holds.2.1 48 = .ok (.iload 4, 2) := by decide +kernel
theorem d_LW_holds_50 : decode Y_LW_holds.2.1 50 = .ok (.bipush (60), 2) := by decide +kernel
theorem d_LW_holds_52 : decode Y_LW_holds.2.1 52 = .ok (.if_icmp .gt (20), 3) := by decide +kernel
theorem d_LW_holds_55 : decode Y_LW_holds.2.1 55 = .ok (.iload 4, 2) := by decide +kernel
theorem d_LW_holds_57 : decode Y_LW_holds.2.1 57 = .ok (.aload_n 0, 1) := by decide +kernel
theorem d_LW_holds_58 : decode Y_LW_holds.2.1 58 = .ok (.iconst (2), 1) := by decide +kernel
theorem d_LW_holds_59 : decode Y_LW_holds.2.1 59 = .ok (.iconst (5), 1) := by decide +kernel
theorem d_LW_holds_60 : decode Y_LW_holds.2.1 60 = .ok (.iconst (0), 1) := by decide +kernel
theorem d_LW_holds_61 : decode Y_LW_holds.2.1 61 = .ok (.iconst (0), 1) := by decide +kernel
theorem d_LW_holds_62 : decode Y_LW_holds.2.1 62 = .ok (.invokestatic 156, 3) := by decide +kernel
theorem d_LW_holds_65 : decode Y_LW_holds.2.1 65 = .ok (.if_icmp .gt (7), 3) := by decide +kernel
theorem d_LW_holds_68 : decode Y_LW_holds.2.1 68 = .ok (.iconst (1), 1) := by decide +kernel
theorem d_LW_holds_69 : decode Y_LW_holds.2.1 69 = .ok (.goto (4), 3) := by decide +kernel
theorem d_LW_holds_72 : decode Y_LW_holds.2.1 72 = .ok (.iconst (0), 1) := by decide +kernel
theorem d_LW_holds_73 : decode Y_LW_holds.2.1 73 = .ok (.istore 6, 2) := by decide +kernel
theorem d_LW_holds_75 : decode Y_LW_holds.2.1 75 = .ok (.iconst (0), 1) := by decide +kernel
theorem d_LW_holds_76 : decode Y_LW_holds.2.1 76 = .ok (.istore 7, 2) := by decide +kernel
theorem d_LW_holds_78 : decode Y_LW_holds.2.1 78 = .ok (.iconst (0), 1) := by decide +kernel
theorem d_LW_holds_79 : decode Y_LW_holds.2.1 79 = .ok (.istore 8, 2) := by decide +kernel
theorem d_LW_holds_81 : decode Y_LW_holds.2.1 81 = .ok (.iconst (0), 1) := by decide +kernel
theorem d_LW_holds_82 : decode Y_LW_holds.2.1 82 = .ok (.istore 9, 2) := by decide +kernel
theorem d_LW_holds_84 : decode Y_LW_holds.2.1 84 = .ok (.iconst (0), 1) := by decide +kernel
theorem d_LW_holds_85 : decode Y_LW_holds.2.1 85 = .ok (.istore 10, 2) := by decide +kernel
theorem d_LW_holds_87 : decode Y_LW_holds.2.1 87 = .ok (.iconst (0), 1) := by decide +kernel
theorem d_LW_holds_88 : decode Y_LW_holds.2.1 88 = .ok (.istore 11, 2) := by decide +kernel
theorem d_LW_holds_90 : decode Y_LW_holds.2.1 90 = .ok (.iload 11, 2) := by decide +kernel
theorem d_LW_holds_92 : decode Y_LW_holds.2.1 92 = .ok (.iload_n 2, 1) := by decide +kernel
theorem d_LW_holds_93 : decode Y_LW_holds.2.1 93 = .ok (.if_icmp .ge (335), 3) := by decide +kernel
theorem d_LW_holds_96 : decode Y_LW_holds.2.1 96 = .ok (.iload 6, 2) := by decide +kernel
theorem d_LW_holds_98 : decode Y_LW_holds.2.1 98 = .ok (.ifCond .eq (330), 3) := by decide +kernel
theorem d_LW_holds_101 : decode Y_LW_holds.2.1 101 = .ok (.aload_n 0, 1) := by decide +kernel
theorem d_LW_holds_102 : decode Y_LW_holds.2.1 102 = .ok (.iconst (3), 1) := by decide +kernel
theorem d_LW_holds_103 : decode Y_LW_holds.2.1 103 = .ok (.iload 11, 2) := by decide +kernel
theorem d_LW_holds_105 : decode Y_LW_holds.2.1 105 = .ok (.iconst (2), 1) := by decide +kernel
theorem d_LW_holds_106 : decode Y_LW_holds.2.1 106 = .ok (.iconst (0), 1) := by decide +kernel
theorem d_LW_holds_107 : decode Y_LW_holds.2.1 107 = .ok (.invokestatic 156, 3) := by decide +kernel
theorem d_LW_holds_110 : decode Y_LW_holds.2.1 110 = .ok (.istore 12, 2) := by decide +kernel
theorem d_LW_holds_112 : decode Y_LW_holds.2.1 112 = .ok (.aload_n 0, 1) := by decide +kernel
theorem d_LW_holds_113 : decode Y_LW_holds.2.1 113 = .ok (.iconst (3), 1) := by decide +kernel
theorem d_LW_holds_114 : decode Y_LW_holds.2.1 114 = .ok (.iload 11, 2) := by decide +kernel
theorem d_LW_holds_116 : decode Y_LW_holds.2.1 116 = .ok (.bipush (6), 2) := by decide +kernel
theorem d_LW_holds_118 : decode Y_LW_holds.2.1 118 = .ok (.iconst (0), 1) := by decide +kernel
theorem d_LW_holds_119 : decode Y_LW_holds.2.1 119 = .ok (.invokestatic 156, 3) := by decide +kernel
theorem d_LW_holds_122 : decode Y_LW_holds.2.1 122 = .ok (.istore 13, 2) := by decide +kernel
theorem d_LW_holds_124 : decode Y_LW_holds.2.1 124 = .ok (.aload_n 0, 1) := by decide +kernel
theorem d_LW_holds_125 : decode Y_LW_holds.2.1 125 = .ok (.iconst (3), 1) := by decide +kernel
theorem d_LW_holds_126 : decode Y_LW_holds.2.1 126 = .ok (.iload 11, 2) := by decide +kernel
theorem d_LW_holds_128 : decode Y_LW_holds.2.1 128 = .ok (.bipush (7), 2) := by decide +kernel
theorem d_LW_holds_130 : decode Y_LW_holds.2.1 130 = .ok (.iconst (0), 1) := by decide +kernel
theorem d_LW_holds_131 : decode Y_LW_holds.2.1 131 = .ok (.invokestatic 156, 3) := by decide +kernel
theorem d_LW_holds_134 : decode Y_LW_holds.2.1 134 = .ok (.aload_n 0, 1) := by decide +kernel
theorem d_LW_holds_135 : decode Y_LW_holds.2.1 135 = .ok (.iconst (3), 1) := by decide +kernel
theorem d_LW_holds_136 : decode Y_LW_holds.2.1 136 = .ok (.iload 11, 2) := by decide +kernel
theorem d_LW_holds_138 : decode Y_LW_holds.2.1 138 = .ok (.iconst (0), 1) := by decide +kernel
theorem d_LW_holds_139 : decode Y_LW_holds.2.1 139 = .ok (.iconst (0), 1) := by decide +kernel
theorem d_LW_holds_140 : decode Y_LW_holds.2.1 140 = .ok (.invokestatic 156, 3) := by decide +kernel
theorem d_LW_holds_143 : decode Y_LW_holds.2.1 143 = .ok (.isub, 1) := by decide +kernel
theorem d_LW_holds_144 : decode Y_LW_holds.2.1 144 = .ok (.istore 14, 2) := by decide +kernel
theorem d_LW_holds_146 : decode Y_LW_holds.2.1 146 = .ok (.aload_n 0, 1) := by decide +kernel
theorem d_LW_holds_147 : decode Y_LW_holds.2.1 147 = .ok (.iconst (3), 1) := by decide +kernel
theorem d_LW_holds_148 : decode Y_LW_holds.2.1 148 = .ok (.iload 11, 2) := by decide +kernel
theorem d_LW_holds_150 : decode Y_LW_holds.2.1 150 = .ok (.bipush (8), 2) := by decide +kernel
theorem d_LW_holds_152 : decode Y_LW_holds.2.1 152 = .ok (.iconst (0), 1) := by decide +kernel
theorem d_LW_holds_153 : decode Y_LW_holds.2.1 153 = .ok (.invokestatic 156, 3) := by decide +kernel
theorem d_LW_holds_156 : decode Y_LW_holds.2.1 156 = .ok (.aload_n 0, 1) := by decide +kernel
theorem d_LW_holds_157 : decode Y_LW_holds.2.1 157 = .ok (.iconst (3), 1) := by decide +kernel
theorem d_LW_holds_158 : decode Y_LW_holds.2.1 158 = .ok (.iload 11, 2) := by decide +kernel
theorem d_LW_holds_160 : decode Y_LW_holds.2.1 160 = .ok (.iconst (1), 1) := by decide +kernel
theorem d_LW_holds_161 : decode Y_LW_holds.2.1 161 = .ok (.iconst (0), 1) := by decide +kernel
theorem d_LW_holds_162 : decode Y_LW_holds.2.1 162 = .ok (.invokestatic 156, 3) := by decide +kernel
theorem d_LW_holds_165 : decode Y_LW_holds.2.1 165 = .ok (.isub, 1) := by decide +kernel
theorem d_LW_holds_166 : decode Y_LW_holds.2.1 166 = .ok (.istore 15, 2) := by decide +kernel
theorem d_LW_holds_168 : decode Y_LW_holds.2.1 168 = .ok (.iload 13, 2) := by decide +kernel
theorem d_LW_holds_170 : decode Y_LW_holds.2.1 170 = .ok (.ifCond .lt (249), 3) := by decide +kernel
theorem d_LW_holds_173 : decode Y_LW_holds.2.1 173 = .ok (.iload 13, 2) := by decide +kernel
theorem d_LW_holds_175 : decode Y_LW_holds.2.1 175 = .ok (.bipush (8), 2) := by decide +kernel
theorem d_LW_holds_177 : decode Y_LW_holds.2.1 177 = .ok (.iload 12, 2) := by decide +kernel
theorem d_LW_holds_179 : decode Y_LW_holds.2.1 179 = .ok (.imul, 1) := by decide +kernel
theorem d_LW_holds_180 : decode Y_LW_holds.2.1 180 = .ok (.if_icmp .ge (239), 3) := by decide +kernel
theorem d_LW_holds_183 : decode Y_LW_holds.2.1 183 = .ok (.iload 14, 2) := by decide +kernel
theorem d_LW_holds_185 : decode Y_LW_holds.2.1 185 = .ok (.invokestatic 185, 3) := by decide +kernel
theorem d_LW_holds_188 : decode Y_LW_holds.2.1 188 = .ok (.iload 12, 2) := by decide +kernel
theorem d_LW_holds_190 : decode Y_LW_holds.2.1 190 = .ok (.if_icmp .gt (229), 3) := by decide +kernel
theorem d_LW_holds_193 : decode Y_LW_holds.2.1 193 = .ok (.iload 15, 2) := by decide +kernel
theorem d_LW_holds_195 : decode Y_LW_holds.2.1 195 = .ok (.invokestatic 185, 3) := by decide +kernel
theorem d_LW_holds_198 : decode Y_LW_holds.2.1 198 = .ok (.iload 12, 2) := by decide +kernel
theorem d_LW_holds_200 : decode Y_LW_holds.2.1 200 = .ok (.if_icmp .gt (219), 3) := by decide +kernel
theorem d_LW_holds_203 : decode Y_LW_holds.2.1 203 = .ok (.iload 14, 2) := by decide +kernel
theorem d_LW_holds_205 : decode Y_LW_holds.2.1 205 = .ok (.invokestatic 185, 3) := by decide +kernel
theorem d_LW_holds_208 : decode Y_LW_holds.2.1 208 = .ok (.iload 12, 2) := by decide +kernel
theorem d_LW_holds_210 : decode Y_LW_holds.2.1 210 = .ok (.if_icmp .eq (13), 3) := by decide +kernel
theorem d_LW_holds_213 : decode Y_LW_holds.2.1 213 = .ok (.iload 15, 2) := by decide +kernel
theorem d_LW_holds_215 : decode Y_LW_holds.2.1 215 = .ok (.invokestatic 185, 3) := by decide +kernel
theorem d_LW_holds_218 : decode Y_LW_holds.2.1 218 = .ok (.iload 12, 2) := by decide +kernel
theorem d_LW_holds_220 : decode Y_LW_holds.2.1 220 = .ok (.if_icmp .ne (199), 3) := by decide +kernel
theorem d_LW_holds_223 : decode Y_LW_holds.2.1 223 = .ok (.iload 13, 2) := by decide +kernel
theorem d_LW_holds_225 : decode Y_LW_holds.2.1 225 = .ok (.ifCond .ne (19), 3) := by decide +kernel
theorem d_LW_holds_228 : decode Y_LW_holds.2.1 228 = .ok (.iload 14, 2) := by decide +kernel
theorem d_LW_holds_230 : decode Y_LW_holds.2.1 230 = .ok (.iload 12, 2) := by decide +kernel
theorem d_LW_holds_232 : decode Y_LW_holds.2.1 232 = .ok (.ineg, 1) := by decide +kernel
theorem d_LW_holds_233 : decode Y_LW_holds.2.1 233 = .ok (.if_icmp .ne (186), 3) := by decide +kernel
theorem d_LW_holds_236 : decode Y_LW_holds.2.1 236 = .ok (.iload 15, 2) := by decide +kernel
theorem d_LW_holds_238 : decode Y_LW_holds.2.1 238 = .ok (.iload 12, 2) := by decide +kernel
theorem d_LW_holds_240 : decode Y_LW_holds.2.1 240 = .ok (.ineg, 1) := by decide +kernel
theorem d_LW_holds_241 : decode Y_LW_holds.2.1 241 = .ok (.if_icmp .ne (178), 3) := by decide +kernel
theorem d_LW_holds_244 : decode Y_LW_holds.2.1 244 = .ok (.iload 13, 2) := by decide +kernel
theorem d_LW_holds_246 : decode Y_LW_holds.2.1 246 = .ok (.iconst (4), 1) := by decide +kernel
theorem d_LW_holds_247 : decode Y_LW_holds.2.1 247 = .ok (.iload 12, 2) := by decide +kernel
theorem d_LW_holds_249 : decode Y_LW_holds.2.1 249 = .ok (.imul, 1) := by decide +kernel
theorem d_LW_holds_250 : decode Y_LW_holds.2.1 250 = .ok (.if_icmp .ne (17), 3) := by decide +kernel
theorem d_LW_holds_253 : decode Y_LW_holds.2.1 253 = .ok (.iload 14, 2) := by decide +kernel
theorem d_LW_holds_255 : decode Y_LW_holds.2.1 255 = .ok (.iload 12, 2) := by decide +kernel
theorem d_LW_holds_257 : decode Y_LW_holds.2.1 257 = .ok (.if_icmp .ne (162), 3) := by decide +kernel
theorem d_LW_holds_260 : decode Y_LW_holds.2.1 260 = .ok (.iload 15, 2) := by decide +kernel
theorem d_LW_holds_262 : decode Y_LW_holds.2.1 262 = .ok (.iload 12, 2) := by decide +kernel
theorem d_LW_holds_264 : decode Y_LW_holds.2.1 264 = .ok (.if_icmp .ne (155), 3) := by decide +kernel
theorem d_LW_holds_267 : decode Y_LW_holds.2.1 267 = .ok (.aload_n 0, 1) := by decide +kernel
theorem d_LW_holds_268 : decode Y_LW_holds.2.1 268 = .ok (.iconst (3), 1) := by decide +kernel
theorem d_LW_holds_269 : decode Y_LW_holds.2.1 269 = .ok (.iload 11, 2) := by decide +kernel
theorem d_LW_holds_271 : decode Y_LW_holds.2.1 271 = .ok (.bipush (9), 2) := by decide +kernel
theorem d_LW_holds_273 : decode Y_LW_holds.2.1 273 = .ok (.iconst (0), 1) := by decide +kernel
theorem d_LW_holds_274 : decode Y_LW_holds.2.1 274 = .ok (.invokestatic 156, 3) := by decide +kernel
theorem d_LW_holds_277 : decode Y_LW_holds.2.1 277 = .ok (.ifCond .eq (19), 3) := by decide +kernel
theorem d_LW_holds_280 : decode Y_LW_holds.2.1 280 = .ok (.aload_n 0, 1) := by decide +kernel
theorem d_LW_holds_281 : decode Y_LW_holds.2.1 281 = .ok (.iconst (3), 1) := by decide +kernel
theorem d_LW_holds_282 : decode Y_LW_holds.2.1 282 = .ok (.iload 11, 2) := by decide +kernel
theorem d_LW_holds_284 : decode Y_LW_holds.2.1 284 = .ok (.iconst (3), 1) := by decide +kernel
theorem d_LW_holds_285 : decode Y_LW_holds.2.1 285 = .ok (.iconst (0), 1) := by decide +kernel
theorem d_LW_holds_286 : decode Y_LW_holds.2.1 286 = .ok (.invokestatic 156, 3) := by decide +kernel
theorem d_LW_holds_289 : decode Y_LW_holds.2.1 289 = .ok (.invokestatic 185, 3) := by decide +kernel
theorem d_LW_holds_292 : decode Y_LW_holds.2.1 292 = .ok (.iconst (1), 1) := by decide +kernel
theorem d_LW_holds_293 : decode Y_LW_holds.2.1 293 = .ok (.if_icmp .le (126), 3) := by decide +kernel
theorem d_LW_holds_296 : decode Y_LW_holds.2.1 296 = .ok (.aload_n 0, 1) := by decide +kernel
theorem d_LW_holds_297 : decode Y_LW_holds.2.1 297 = .ok (.iconst (3), 1) := by decide +kernel
theorem d_LW_holds_298 : decode Y_LW_holds.2.1 298 = .ok (.iload 11, 2) := by decide +kernel
theorem d_LW_holds_300 : decode Y_LW_holds.2.1 300 = .ok (.iconst (3), 1) := by decide +kernel
theorem d_LW_holds_301 : decode Y_LW_holds.2.1 301 = .ok (.iconst (0), 1) := by decide +kernel
theorem d_LW_holds_302 : decode Y_LW_holds.2.1 302 = .ok (.invokestatic 156, 3) := by decide +kernel
theorem d_LW_holds_305 : decode Y_LW_holds.2.1 305 = .ok (.invokestatic 185, 3) := by decide +kernel
theorem d_LW_holds_308 : decode Y_LW_holds.2.1 308 = .ok (.aload_n 0, 1) := by decide +kernel
theorem d_LW_holds_309 : decode Y_LW_holds.2.1 309 = .ok (.iconst (3), 1) := by decide +kernel
theorem d_LW_holds_310 : decode Y_LW_holds.2.1 310 = .ok (.iconst (0), 1) := by decide +kernel
theorem d_LW_holds_311 : decode Y_LW_holds.2.1 311 = .ok (.iconst (3), 1) := by decide +kernel
theorem d_LW_holds_312 : decode Y_LW_holds.2.1 312 = .ok (.iconst (0), 1) := by decide +kernel
theorem d_LW_holds_313 : decode Y_LW_holds.2.1 313 = .ok (.invokestatic 156, 3) := by decide +kernel
theorem d_LW_holds_316 : decode Y_LW_holds.2.1 316 = .ok (.invokestatic 185, 3) := by decide +kernel
theorem d_LW_holds_319 : decode Y_LW_holds.2.1 319 = .ok (.if_icmp .le (28), 3) := by decide +kernel
theorem d_LW_holds_322 : decode Y_LW_holds.2.1 322 = .ok (.aload_n 0, 1) := by decide +kernel
theorem d_LW_holds_323 : decode Y_LW_holds.2.1 323 = .ok (.iconst (3), 1) := by decide +kernel
theorem d_LW_holds_324 : decode Y_LW_holds.2.1 324 = .ok (.iload 11, 2) := by decide +kernel
theorem d_LW_holds_326 : decode Y_LW_holds.2.1 326 = .ok (.bipush (9), 2) := by decide +kernel
theorem d_LW_holds_328 : decode Y_LW_holds.2.1 328 = .ok (.iconst (0), 1) := by decide +kernel
theorem d_LW_holds_329 : decode Y_LW_holds.2.1 329 = .ok (.invokestatic 156, 3) := by decide +kernel
theorem d_LW_holds_332 : decode Y_LW_holds.2.1 332 = .ok (.aload_n 0, 1) := by decide +kernel
theorem d_LW_holds_333 : decode Y_LW_holds.2.1 333 = .ok (.iconst (3), 1) := by decide +kernel
theorem d_LW_holds_334 : decode Y_LW_holds.2.1 334 = .ok (.iconst (0), 1) := by decide +kernel
theorem d_LW_holds_335 : decode Y_LW_holds.2.1 335 = .ok (.bipush (9), 2) := by decide +kernel
theorem d_LW_holds_337 : decode Y_LW_holds.2.1 337 = .ok (.iconst (0), 1) := by decide +kernel
theorem d_LW_holds_338 : decode Y_LW_holds.2.1 338 = .ok (.invokestatic 156, 3) := by decide +kernel
theorem d_LW_holds_341 : decode Y_LW_holds.2.1 341 = .ok (.if_icmp .lt (78), 3) := by decide +kernel
theorem d_LW_holds_344 : decode Y_LW_holds.2.1 344 = .ok (.goto (25), 3) := by decide +kernel
theorem d_LW_holds_347 : decode Y_LW_holds.2.1 347 = .ok (.aload_n 0, 1) := by decide +kernel
theorem d_LW_holds_348 : decode Y_LW_holds.2.1 348 = .ok (.iconst (3), 1) := by decide +kernel
theorem d_LW_holds_349 : decode Y_LW_holds.2.1 349 = .ok (.iload 11, 2) := by decide +kernel
theorem d_LW_holds_351 : decode Y_LW_holds.2.1 351 = .ok (.bipush (9), 2) := by decide +kernel
theorem d_LW_holds_353 : decode Y_LW_holds.2.1 353 = .ok (.iconst (0), 1) := by decide +kernel
theorem d_LW_holds_354 : decode Y_LW_holds.2.1 354 = .ok (.invokestatic 156, 3) := by decide +kernel
theorem d_LW_holds_357 : decode Y_LW_holds.2.1 357 = .ok (.aload_n 0, 1) := by decide +kernel
theorem d_LW_holds_358 : decode Y_LW_holds.2.1 358 = .ok (.iconst (3), 1) := by decide +kernel
theorem d_LW_holds_359 : decode Y_LW_holds.2.1 359 = .ok (.iconst (0), 1) := by decide +kernel
theorem d_LW_holds_360 : decode Y_LW_holds.2.1 360 = .ok (.bipush (9), 2) := by decide +kernel
theorem d_LW_holds_362 : decode Y_LW_holds.2.1 362 = .ok (.iconst (0), 1) := by decide +kernel
theorem d_LW_holds_363 : decode Y_LW_holds.2.1 363 = .ok (.invokestatic 156, 3) := by decide +kernel
theorem d_LW_holds_366 : decode Y_LW_holds.2.1 366 = .ok (.if_icmp .gt (53), 3) := by decide +kernel
theorem d_LW_holds_369 : decode Y_LW_holds.2.1 369 = .ok (.aload_n 0, 1) := by decide +kernel
theorem d_LW_holds_370 : decode Y_LW_holds.2.1 370 = .ok (.bipush (12), 2) := by decide +kernel
theorem d_LW_holds_372 : decode Y_LW_holds.2.1 372 = .ok (.iload 11, 2) := by decide +kernel
theorem d_LW_holds_374 : decode Y_LW_holds.2.1 374 = .ok (.iload_n 1, 1) := by decide +kernel
theorem d_LW_holds_375 : decode Y_LW_holds.2.1 375 = .ok (.sipush (1001), 3) := by decide +kernel
theorem d_LW_holds_378 : decode Y_LW_holds.2.1 378 = .ok (.irem, 1) := by decide +kernel
theorem d_LW_holds_379 : decode Y_LW_holds.2.1 379 = .ok (.iconst (0), 1) := by decide +kernel
theorem d_LW_holds_380 : decode Y_LW_holds.2.1 380 = .ok (.invokestatic 156, 3) := by decide +kernel
theorem d_LW_holds_383 : decode Y_LW_holds.2.1 383 = .ok (.aload_n 0, 1) := by decide +kernel
theorem d_LW_holds_384 : decode Y_LW_holds.2.1 384 = .ok (.bipush (12), 2) := by decide +kernel
theorem d_LW_holds_386 : decode Y_LW_holds.2.1 386 = .ok (.iload 11, 2) := by decide +kernel
theorem d_LW_holds_388 : decode Y_LW_holds.2.1 388 = .ok (.iload_n 1, 1) := by decide +kernel
theorem d_LW_holds_389 : decode Y_LW_holds.2.1 389 = .ok (.sipush (1001), 3) := by decide +kernel
theorem d_LW_holds_392 : decode Y_LW_holds.2.1 392 = .ok (.irem, 1) := by decide +kernel
theorem d_LW_holds_393 : decode Y_LW_holds.2.1 393 = .ok (.iconst (1), 1) := by decide +kernel
theorem d_LW_holds_394 : decode Y_LW_holds.2.1 394 = .ok (.invokestatic 156, 3) := by decide +kernel
theorem d_LW_holds_397 : decode Y_LW_holds.2.1 397 = .ok (.if_icmp .ne (22), 3) := by decide +kernel
theorem d_LW_holds_400 : decode Y_LW_holds.2.1 400 = .ok (.aload_n 0, 1) := by decide +kernel
theorem d_LW_holds_401 : decode Y_LW_holds.2.1 401 = .ok (.bipush (12), 2) := by decide +kernel
theorem d_LW_holds_403 : decode Y_LW_holds.2.1 403 = .ok (.iload 11, 2) := by decide +kernel
theorem d_LW_holds_405 : decode Y_LW_holds.2.1 405 = .ok (.iconst (0), 1) := by decide +kernel
theorem d_LW_holds_406 : decode Y_LW_holds.2.1 406 = .ok (.iconst (1), 1) := by decide +kernel
theorem d_LW_holds_407 : decode Y_LW_holds.2.1 407 = .ok (.invokestatic 156, 3) := by decide +kernel
theorem d_LW_holds_410 : decode Y_LW_holds.2.1 410 = .ok (.iload 13, 2) := by decide +kernel
theorem d_LW_holds_412 : decode Y_LW_holds.2.1 412 = .ok (.if_icmp .ne (7), 3) := by decide +kernel
theorem d_LW_holds_415 : decode Y_LW_holds.2.1 415 = .ok (.iconst (1), 1) := by decide +kernel
theorem d_LW_holds_416 : decode Y_LW_holds.2.1 416 = .ok (.goto (4), 3) := by decide +kernel
theorem d_LW_holds_419 : decode Y_LW_holds.2.1 419 = .ok (.iconst (0), 1) := by decide +kernel
theorem d_LW_holds_420 : decode Y_LW_holds.2.1 420 = .ok (.istore 6, 2) := by decide +kernel
theorem d_LW_holds_422 : decode Y_LW_holds.2.1 422 = .ok (.iinc 11 (1), 3) := by decide +kernel
theorem d_LW_holds_425 : decode Y_LW_holds.2.1 425 = .ok (.goto (-335), 3) := by decide +kernel
theorem d_LW_holds_428 : decode Y_LW_holds.2.1 428 = .ok (.iconst (0), 1) := by decide +kernel
theorem d_LW_holds_429 : decode Y_LW_holds.2.1 429 = .ok (.istore 11, 2) := by decide +kernel
theorem d_LW_holds_431 : decode Y_LW_holds.2.1 431 = .ok (.iload 11, 2) := by decide +kernel
theorem d_LW_holds_433 : decode Y_LW_holds.2.1 433 = .ok (.iload_n 3, 1) := by decide +kernel
theorem d_LW_holds_434 : decode Y_LW_holds.2.1 434 = .ok (.if_icmp .ge (386), 3) := by decide +kernel
theorem d_LW_holds_437 : decode Y_LW_holds.2.1 437 = .ok (.iload 6, 2) := by decide +kernel
theorem d_LW_holds_439 : decode Y_LW_holds.2.1 439 = .ok (.ifCond .eq (381), 3) := by decide +kernel
theorem d_LW_holds_442 : decode Y_LW_holds.2.1 442 = .ok (.iload 10, 2) := by decide +kernel
theorem d_LW_holds_444 : decode Y_LW_holds.2.1 444 = .ok (.aload_n 0, 1) := by decide +kernel
theorem d_LW_holds_445 : decode Y_LW_holds.2.1 445 = .ok (.iconst (4), 1) := by decide +kernel
theorem d_LW_holds_446 : decode Y_LW_holds.2.1 446 = .ok (.iload 11, 2) := by decide +kernel
theorem d_LW_holds_448 : decode Y_LW_holds.2.1 448 = .ok (.iconst (4), 1) := by decide +kernel
theorem d_LW_holds_449 : decode Y_LW_holds.2.1 449 = .ok (.iconst (0), 1) := by decide +kernel
theorem d_LW_holds_450 : decode Y_LW_holds.2.1 450 = .ok (.invokestatic 156, 3) := by decide +kernel
theorem d_LW_holds_453 : decode Y_LW_holds.2.1 453 = .ok (.iadd, 1) := by decide +kernel
theorem d_LW_holds_454 : decode Y_LW_holds.2.1 454 = .ok (.istore 10, 2) := by decide +kernel
theorem d_LW_holds_456 : decode Y_LW_holds.2.1 456 = .ok (.aload_n 0, 1) := by decide +kernel
theorem d_LW_holds_457 : decode Y_LW_holds.2.1 457 = .ok (.iconst (4), 1) := by decide +kernel
theorem d_LW_holds_458 : decode Y_LW_holds.2.1 458 = .ok (.iload 11, 2) := by decide +kernel
theorem d_LW_holds_460 : decode Y_LW_holds.2.1 460 = .ok (.iconst (0), 1) := by decide +kernel
theorem d_LW_holds_461 : decode Y_LW_holds.2.1 461 = .ok (.iconst (0), 1) := by decide +kernel
theorem d_LW_holds_462 : decode Y_LW_holds.2.1 462 = .ok (.invokestatic 156, 3) := by decide +kernel
theorem d_LW_holds_465 : decode Y_LW_holds.2.1 465 = .ok (.invokestatic 185, 3) := by decide +kernel
theorem d_LW_holds_468 : decode Y_LW_holds.2.1 468 = .ok (.bipush (40), 2) := by decide +kernel
theorem d_LW_holds_470 : decode Y_LW_holds.2.1 470 = .ok (.if_icmp .gt (86), 3) := by decide +kernel
theorem d_LW_holds_473 : decode Y_LW_holds.2.1 473 = .ok (.aload_n 0, 1) := by decide +kernel
theorem d_LW_holds_474 : decode Y_LW_holds.2.1 474 = .ok (.iconst (4), 1) := by decide +kernel
theorem d_LW_holds_475 : decode Y_LW_holds.2.1 475 = .ok (.iload 11, 2) := by decide +kernel
theorem d_LW_holds_477 : decode Y_LW_holds.2.1 477 = .ok (.iconst (1), 1) := by decide +kernel
theorem d_LW_holds_478 : decode Y_LW_holds.2.1 478 = .ok (.iconst (0), 1) := by decide +kernel
theorem d_LW_holds_479 : decode Y_LW_holds.2.1 479 = .ok (.invokestatic 156, 3) := by decide +kernel
theorem d_LW_holds_482 : decode Y_LW_holds.2.1 482 = .ok (.invokestatic 185, 3) := by decide +kernel
theorem d_LW_holds_485 : decode Y_LW_holds.2.1 485 = .ok (.bipush (40), 2) := by decide +kernel
theorem d_LW_holds_487 : decode Y_LW_holds.2.1 487 = .ok (.if_icmp .gt (69), 3) := by decide +kernel
theorem d_LW_holds_490 : decode Y_LW_holds.2.1 490 = .ok (.aload_n 0, 1) := by decide +kernel
theorem d_LW_holds_491 : decode Y_LW_holds.2.1 491 = .ok (.iconst (4), 1) := by decide +kernel
theorem d_LW_holds_492 : decode Y_LW_holds.2.1 492 = .ok (.iload 11, 2) := by decide +kernel
theorem d_LW_holds_494 : decode Y_LW_holds.2.1 494 = .ok (.iconst (2), 1) := by decide +kernel
theorem d_LW_holds_495 : decode Y_LW_holds.2.1 495 = .ok (.iconst (0), 1) := by decide +kernel
theorem d_LW_holds_496 : decode Y_LW_holds.2.1 496 = .ok (.invokestatic 156, 3) := by decide +kernel
theorem d_LW_holds_499 : decode Y_LW_holds.2.1 499 = .ok (.invokestatic 185, 3) := by decide +kernel
theorem d_LW_holds_502 : decode Y_LW_holds.2.1 502 = .ok (.iconst (2), 1) := by decide +kernel
theorem d_LW_holds_503 : decode Y_LW_holds.2.1 503 = .ok (.if_icmp .gt (53), 3) := by decide +kernel
theorem d_LW_holds_506 : decode Y_LW_holds.2.1 506 = .ok (.aload_n 0, 1) := by decide +kernel
theorem d_LW_holds_507 : decode Y_LW_holds.2.1 507 = .ok (.iconst (4), 1) := by decide +kernel
theorem d_LW_holds_508 : decode Y_LW_holds.2.1 508 = .ok (.iload 11, 2) := by decide +kernel
theorem d_LW_holds_510 : decode Y_LW_holds.2.1 510 = .ok (.iconst (3), 1) := by decide +kernel
theorem d_LW_holds_511 : decode Y_LW_holds.2.1 511 = .ok (.iconst (0), 1) := by decide +kernel
theorem d_LW_holds_512 : decode Y_LW_holds.2.1 512 = .ok (.invokestatic 156, 3) := by decide +kernel
theorem d_LW_holds_515 : decode Y_LW_holds.2.1 515 = .ok (.invokestatic 185, 3) := by decide +kernel
theorem d_LW_holds_518 : decode Y_LW_holds.2.1 518 = .ok (.iconst (2), 1) := by decide +kernel
theorem d_LW_holds_519 : decode Y_LW_holds.2.1 519 = .ok (.if_icmp .gt (37), 3) := by decide +kernel
theorem d_LW_holds_522 : decode Y_LW_holds.2.1 522 = .ok (.aload_n 0, 1) := by decide +kernel
theorem d_LW_holds_523 : decode Y_LW_holds.2.1 523 = .ok (.iconst (4), 1) := by decide +kernel
theorem d_LW_holds_524 : decode Y_LW_holds.2.1 524 = .ok (.iload 11, 2) := by decide +kernel
theorem d_LW_holds_526 : decode Y_LW_holds.2.1 526 = .ok (.iconst (5), 1) := by decide +kernel
theorem d_LW_holds_527 : decode Y_LW_holds.2.1 527 = .ok (.iconst (0), 1) := by decide +kernel
theorem d_LW_holds_528 : decode Y_LW_holds.2.1 528 = .ok (.invokestatic 156, 3) := by decide +kernel
theorem d_LW_holds_531 : decode Y_LW_holds.2.1 531 = .ok (.iconst (-1), 1) := by decide +kernel
theorem d_LW_holds_532 : decode Y_LW_holds.2.1 532 = .ok (.if_icmp .ne (7), 3) := by decide +kernel
theorem d_LW_holds_535 : decode Y_LW_holds.2.1 535 = .ok (.iconst (1), 1) := by decide +kernel
theorem d_LW_holds_536 : decode Y_LW_holds.2.1 536 = .ok (.goto (4), 3) := by decide +kernel
theorem d_LW_holds_539 : decode Y_LW_holds.2.1 539 = .ok (.iconst (0), 1) := by decide +kernel
theorem d_LW_holds_540 : decode Y_LW_holds.2.1 540 = .ok (.iload_n 2, 1) := by decide +kernel
theorem d_LW_holds_541 : decode Y_LW_holds.2.1 541 = .ok (.ifCond .ne (7), 3) := by decide +kernel
theorem d_LW_holds_544 : decode Y_LW_holds.2.1 544 = .ok (.iconst (1), 1) := by decide +kernel
theorem d_LW_holds_545 : decode Y_LW_holds.2.1 545 = .ok (.goto (4), 3) := by decide +kernel
theorem d_LW_holds_548 : decode Y_LW_holds.2.1 548 = .ok (.iconst (0), 1) := by decide +kernel
theorem d_LW_holds_549 : decode Y_LW_holds.2.1 549 = .ok (.if_icmp .ne (7), 3) := by decide +kernel
theorem d_LW_holds_552 : decode Y_LW_holds.2.1 552 = .ok (.iconst (1), 1) := by decide +kernel
theorem d_LW_holds_553 : decode Y_LW_holds.2.1 553 = .ok (.goto (4), 3) := by decide +kernel
theorem d_LW_holds_556 : decode Y_LW_holds.2.1 556 = .ok (.iconst (0), 1) := by decide +kernel
theorem d_LW_holds_557 : decode Y_LW_holds.2.1 557 = .ok (.istore 6, 2) := by decide +kernel
theorem d_LW_holds_559 : decode Y_LW_holds.2.1 559 = .ok (.iconst (0), 1) := by decide +kernel
theorem d_LW_holds_560 : decode Y_LW_holds.2.1 560 = .ok (.istore 12, 2) := by decide +kernel
theorem d_LW_holds_562 : decode Y_LW_holds.2.1 562 = .ok (.iload 12, 2) := by decide +kernel
theorem d_LW_holds_564 : decode Y_LW_holds.2.1 564 = .ok (.iload_n 2, 1) := by decide +kernel
theorem d_LW_holds_565 : decode Y_LW_holds.2.1 565 = .ok (.if_icmp .ge (249), 3) := by decide +kernel
theorem d_LW_holds_568 : decode Y_LW_holds.2.1 568 = .ok (.iload 6, 2) := by decide +kernel
theorem d_LW_holds_570 : decode Y_LW_holds.2.1 570 = .ok (.ifCond .eq (244), 3) := by decide +kernel
theorem d_LW_holds_573 : decode Y_LW_holds.2.1 573 = .ok (.aload_n 0, 1) := by decide +kernel
theorem d_LW_holds_574 : decode Y_LW_holds.2.1 574 = .ok (.bipush (7), 2) := by decide +kernel
theorem d_LW_holds_576 : decode Y_LW_holds.2.1 576 = .ok (.iload 11, 2) := by decide +kernel
theorem d_LW_holds_578 : decode Y_LW_holds.2.1 578 = .ok (.iload 12, 2) := by decide +kernel
theorem d_LW_holds_580 : decode Y_LW_holds.2.1 580 = .ok (.iconst (0), 1) := by decide +kernel
theorem d_LW_holds_581 : decode Y_LW_holds.2.1 581 = .ok (.invokestatic 156, 3) := by decide +kernel
theorem d_LW_holds_584 : decode Y_LW_holds.2.1 584 = .ok (.istore 13, 2) := by decide +kernel
theorem d_LW_holds_586 : decode Y_LW_holds.2.1 586 = .ok (.aload_n 0, 1) := by decide +kernel
theorem d_LW_holds_587 : decode Y_LW_holds.2.1 587 = .ok (.bipush (7), 2) := by decide +kernel
theorem d_LW_holds_589 : decode Y_LW_holds.2.1 589 = .ok (.iload 11, 2) := by decide +kernel
theorem d_LW_holds_591 : decode Y_LW_holds.2.1 591 = .ok (.iload 12, 2) := by decide +kernel
theorem d_LW_holds_593 : decode Y_LW_holds.2.1 593 = .ok (.iconst (4), 1) := by decide +kernel
theorem d_LW_holds_594 : decode Y_LW_holds.2.1 594 = .ok (.invokestatic 156, 3) := by decide +kernel
theorem d_LW_holds_597 : decode Y_LW_holds.2.1 597 = .ok (.istore 14, 2) := by decide +kernel
theorem d_LW_holds_599 : decode Y_LW_holds.2.1 599 = .ok (.aload_n 0, 1) := by decide +kernel
theorem d_LW_holds_600 : decode Y_LW_holds.2.1 600 = .ok (.bipush (7), 2) := by decide +kernel
theorem d_LW_holds_602 : decode Y_LW_holds.2.1 602 = .ok (.iload 11, 2) := by decide +kernel
theorem d_LW_holds_604 : decode Y_LW_holds.2.1 604 = .ok (.iload 12, 2) := by decide +kernel
theorem d_LW_holds_606 : decode Y_LW_holds.2.1 606 = .ok (.iconst (5), 1) := by decide +kernel
theorem d_LW_holds_607 : decode Y_LW_holds.2.1 607 = .ok (.invokestatic 156, 3) := by decide +kernel
theorem d_LW_holds_610 : decode Y_LW_holds.2.1 610 = .ok (.istore 15, 2) := by decide +kernel
theorem d_LW_holds_612 : decode Y_LW_holds.2.1 612 = .ok (.aload_n 0, 1) := by decide +kernel
theorem d_LW_holds_613 : decode Y_LW_holds.2.1 613 = .ok (.iconst (3), 1) := by decide +kernel
theorem d_LW_holds_614 : decode Y_LW_holds.2.1 614 = .ok (.iload 12, 2) := by decide +kernel
theorem d_LW_holds_616 : decode Y_LW_holds.2.1 616 = .ok (.iconst (4), 1) := by decide +kernel
theorem d_LW_holds_617 : decode Y_LW_holds.2.1 617 = .ok (.iconst (0), 1) := by decide +kernel
theorem d_LW_holds_618 : decode Y_LW_holds.2.1 618 = .ok (.invokestatic 156, 3) := by decide +kernel
theorem d_LW_holds_621 : decode Y_LW_holds.2.1 621 = .ok (.istore 16, 2) := by decide +kernel
theorem d_LW_holds_623 : decode Y_LW_holds.2.1 623 = .ok (.iload 7, 2) := by decide +kernel
theorem d_LW_holds_625 : decode Y_LW_holds.2.1 625 = .ok (.iload 13, 2) := by decide +kernel
theorem d_LW_holds_627 : decode Y_LW_holds.2.1 627 = .ok (.iadd, 1) := by decide +kernel
theorem d_LW_holds_628 : decode Y_LW_holds.2.1 628 = .ok (.istore 7, 2) := by decide +kernel
theorem d_LW_holds_630 : decode Y_LW_holds.2.1 630 = .ok (.iload 8, 2) := by decide +kernel
theorem d_LW_holds_632 : decode Y_LW_holds.2.1 632 = .ok (.aload_n 0, 1) := by decide +kernel
theorem d_LW_holds_633 : decode Y_LW_holds.2.1 633 = .ok (.bipush (7), 2) := by decide +kernel
theorem d_LW_holds_635 : decode Y_LW_holds.2.1 635 = .ok (.iload 11, 2) := by decide +kernel
theorem d_LW_holds_637 : decode Y_LW_holds.2.1 637 = .ok (.iload 12, 2) := by decide +kernel
theorem d_LW_holds_639 : decode Y_LW_holds.2.1 639 = .ok (.iconst (1), 1) := by decide +kernel
theorem d_LW_holds_640 : decode Y_LW_holds.2.1 640 = .ok (.invokestatic 156, 3) := by decide +kernel
theorem d_LW_holds_643 : decode Y_LW_holds.2.1 643 = .ok (.iadd, 1) := by decide +kernel
theorem d_LW_holds_644 : decode Y_LW_holds.2.1 644 = .ok (.istore 8, 2) := by decide +kernel
theorem d_LW_holds_646 : decode Y_LW_holds.2.1 646 = .ok (.iload 9, 2) := by decide +kernel
theorem d_LW_holds_648 : decode Y_LW_holds.2.1 648 = .ok (.aload_n 0, 1) := by decide +kernel
theorem d_LW_holds_649 : decode Y_LW_holds.2.1 649 = .ok (.bipush (7), 2) := by decide +kernel
theorem d_LW_holds_651 : decode Y_LW_holds.2.1 651 = .ok (.iload 11, 2) := by decide +kernel
theorem d_LW_holds_653 : decode Y_LW_holds.2.1 653 = .ok (.iload 12, 2) := by decide +kernel
theorem d_LW_holds_655 : decode Y_LW_holds.2.1 655 = .ok (.iconst (2), 1) := by decide +kernel
theorem d_LW_holds_656 : decode Y_LW_holds.2.1 656 = .ok (.invokestatic 156, 3) := by decide +kernel
theorem d_LW_holds_659 : decode Y_LW_holds.2.1 659 = .ok (.iadd, 1) := by decide +kernel
theorem d_LW_holds_660 : decode Y_LW_holds.2.1 660 = .ok (.istore 9, 2) := by decide +kernel
theorem d_LW_holds_662 : decode Y_LW_holds.2.1 662 = .ok (.aload_n 0, 1) := by decide +kernel
theorem d_LW_holds_663 : decode Y_LW_holds.2.1 663 = .ok (.bipush (7), 2) := by decide +kernel
theorem d_LW_holds_665 : decode Y_LW_holds.2.1 665 = .ok (.iload 11, 2) := by decide +kernel
theorem d_LW_holds_667 : decode Y_LW_holds.2.1 667 = .ok (.iload 12, 2) := by decide +kernel
theorem d_LW_holds_669 : decode Y_LW_holds.2.1 669 = .ok (.iconst (2), 1) := by decide +kernel
theorem d_LW_holds_670 : decode Y_LW_holds.2.1 670 = .ok (.invokestatic 156, 3) := by decide +kernel
theorem d_LW_holds_673 : decode Y_LW_holds.2.1 673 = .ok (.iload 13, 2) := by decide +kernel
theorem d_LW_holds_675 : decode Y_LW_holds.2.1 675 = .ok (.ifCond .le (10), 3) := by decide +kernel
theorem d_LW_holds_678 : decode Y_LW_holds.2.1 678 = .ok (.iload 13, 2) := by decide +kernel
theorem d_LW_holds_680 : decode Y_LW_holds.2.1 680 = .ok (.iconst (1), 1) := by decide +kernel
theorem d_LW_holds_681 : decode Y_LW_holds.2.1 681 = .ok (.isub, 1) := by decide +kernel
theorem d_LW_holds_682 : decode Y_LW_holds.2.1 682 = .ok (.goto (4), 3) := by decide +kernel
theorem d_LW_holds_685 : decode Y_LW_holds.2.1 685 = .ok (.iconst (0), 1) := by decide +kernel
theorem d_LW_holds_686 : decode Y_LW_holds.2.1 686 = .ok (.if_icmp .gt (119), 3) := by decide +kernel
theorem d_LW_holds_689 : decode Y_LW_holds.2.1 689 = .ok (.aload_n 0, 1) := by decide +kernel
theorem d_LW_holds_690 : decode Y_LW_holds.2.1 690 = .ok (.bipush (7), 2) := by decide +kernel
theorem d_LW_holds_692 : decode Y_LW_holds.2.1 692 = .ok (.iload 11, 2) := by decide +kernel
theorem d_LW_holds_694 : decode Y_LW_holds.2.1 694 = .ok (.iload 12, 2) := by decide +kernel
theorem d_LW_holds_696 : decode Y_LW_holds.2.1 696 = .ok (.iconst (3), 1) := by decide +kernel
theorem d_LW_holds_697 : decode Y_LW_holds.2.1 697 = .ok (.invokestatic 156, 3) := by decide +kernel
theorem d_LW_holds_700 : decode Y_LW_holds.2.1 700 = .ok (.iconst (-1), 1) := by decide +kernel
theorem d_LW_holds_701 : decode Y_LW_holds.2.1 701 = .ok (.if_icmp .ne (7), 3) := by decide +kernel
theorem d_LW_holds_704 : decode Y_LW_holds.2.1 704 = .ok (.iconst (1), 1) := by decide +kernel
theorem d_LW_holds_705 : decode Y_LW_holds.2.1 705 = .ok (.goto (4), 3) := by decide +kernel
theorem d_LW_holds_708 : decode Y_LW_holds.2.1 708 = .ok (.iconst (0), 1) := by decide +kernel
theorem d_LW_holds_709 : decode Y_LW_holds.2.1 709 = .ok (.iload 13, 2) := by decide +kernel
theorem d_LW_holds_711 : decode Y_LW_holds.2.1 711 = .ok (.ifCond .ne (7), 3) := by decide +kernel
theorem d_LW_holds_714 : decode Y_LW_holds.2.1 714 = .ok (.iconst (1), 1) := by decide +kernel
theorem d_LW_holds_715 : decode Y_LW_holds.2.1 715 = .ok (.goto (4), 3) := by decide +kernel
theorem d_LW_holds_718 : decode Y_LW_holds.2.1 718 = .ok (.iconst (0), 1) := by decide +kernel
theorem d_LW_holds_719 : decode Y_LW_holds.2.1 719 = .ok (.if_icmp .ne (86), 3) := by decide +kernel
theorem d_LW_holds_722 : decode Y_LW_holds.2.1 722 = .ok (.aload_n 0, 1) := by decide +kernel
theorem d_LW_holds_723 : decode Y_LW_holds.2.1 723 = .ok (.bipush (7), 2) := by decide +kernel
theorem d_LW_holds_725 : decode Y_LW_holds.2.1 725 = .ok (.iload 11, 2) := by decide +kernel
theorem d_LW_holds_727 : decode Y_LW_holds.2.1 727 = .ok (.iload 12, 2) := by decide +kernel
theorem d_LW_holds_729 : decode Y_LW_holds.2.1 729 = .ok (.iconst (3), 1) := by decide +kernel
theorem d_LW_holds_730 : decode Y_LW_holds.2.1 730 = .ok (.invokestatic 156, 3) := by decide +kernel
theorem d_LW_holds_733 : decode Y_LW_holds.2.1 733 = .ok (.iload 5, 2) := by decide +kernel
theorem d_LW_holds_735 : decode Y_LW_holds.2.1 735 = .ok (.if_icmp .gt (70), 3) := by decide +kernel
theorem d_LW_holds_738 : decode Y_LW_holds.2.1 738 = .ok (.iload 14, 2) := by decide +kernel
theorem d_LW_holds_740 : decode Y_LW_holds.2.1 740 = .ok (.iconst (-1), 1) := by decide +kernel
theorem d_LW_holds_741 : decode Y_LW_holds.2.1 741 = .ok (.if_icmp .ne (7), 3) := by decide +kernel
theorem d_LW_holds_744 : decode Y_LW_holds.2.1 744 = .ok (.iconst (1), 1) := by decide +kernel
theorem d_LW_holds_745 : decode Y_LW_holds.2.1 745 = .ok (.goto (4), 3) := by decide +kernel
theorem d_LW_holds_748 : decode Y_LW_holds.2.1 748 = .ok (.iconst (0), 1) := by decide +kernel
theorem d_LW_holds_749 : decode Y_LW_holds.2.1 749 = .ok (.iload 13, 2) := by decide +kernel
theorem d_LW_holds_751 : decode Y_LW_holds.2.1 751 = .ok (.iconst (2), 1) := by decide +kernel
theorem d_LW_holds_752 : decode Y_LW_holds.2.1 752 = .ok (.if_icmp .ge (7), 3) := by decide +kernel
theorem d_LW_holds_755 : decode Y_LW_holds.2.1 755 = .ok (.iconst (1), 1) := by decide +kernel
theorem d_LW_holds_756 : decode Y_LW_holds.2.1 756 = .ok (.goto (4), 3) := by decide +kernel
theorem d_LW_holds_759 : decode Y_LW_holds.2.1 759 = .ok (.iconst (0), 1) := by decide +kernel
theorem d_LW_holds_760 : decode Y_LW_holds.2.1 760 = .ok (.if_icmp .ne (45), 3) := by decide +kernel
theorem d_LW_holds_763 : decode Y_LW_holds.2.1 763 = .ok (.iload 15, 2) := by decide +kernel
theorem d_LW_holds_765 : decode Y_LW_holds.2.1 765 = .ok (.iload 14, 2) := by decide +kernel
theorem d_LW_holds_767 : decode Y_LW_holds.2.1 767 = .ok (.iconst (-1), 1) := by decide +kernel
theorem d_LW_holds_768 : decode Y_LW_holds.2.1 768 = .ok (.if_icmp .ne (7), 3) := by decide +kernel
theorem d_LW_holds_771 : decode Y_LW_holds.2.1 771 = .ok (.iconst (-1), 1) := by decide +kernel
theorem d_LW_holds_772 : decode Y_LW_holds.2.1 772 = .ok (.goto (26), 3) := by decide +kernel
theorem d_LW_holds_775 : decode Y_LW_holds.2.1 775 = .ok (.iload 14, 2) := by decide +kernel
theorem d_LW_holds_777 : decode Y_LW_holds.2.1 777 = .ok (.iload 16, 2) := by decide +kernel
theorem d_LW_holds_779 : decode Y_LW_holds.2.1 779 = .ok (.if_icmp .ge (7), 3) := by decide +kernel
theorem d_LW_holds_782 : decode Y_LW_holds.2.1 782 = .ok (.iconst (1), 1) := by decide +kernel
theorem d_LW_holds_783 : decode Y_LW_holds.2.1 783 = .ok (.goto (15), 3) := by decide +kernel
theorem d_LW_holds_786 : decode Y_LW_holds.2.1 786 = .ok (.iload 14, 2) := by decide +kernel
theorem d_LW_holds_788 : decode Y_LW_holds.2.1 788 = .ok (.iload 16, 2) := by decide +kernel
theorem d_LW_holds_790 : decode Y_LW_holds.2.1 790 = .ok (.if_icmp .le (7), 3) := by decide +kernel
theorem d_LW_holds_793 : decode Y_LW_holds.2.1 793 = .ok (.iconst (2), 1) := by decide +kernel
theorem d_LW_holds_794 : decode Y_LW_holds.2.1 794 = .ok (.goto (4), 3) := by decide +kernel
theorem d_LW_holds_797 : decode Y_LW_holds.2.1 797 = .ok (.iconst (0), 1) := by decide +kernel
theorem d_LW_holds_798 : decode Y_LW_holds.2.1 798 = .ok (.if_icmp .ne (7), 3) := by decide +kernel
theorem d_LW_holds_801 : decode Y_LW_holds.2.1 801 = .ok (.iconst (1), 1) := by decide +kernel
theorem d_LW_holds_802 : decode Y_LW_holds.2.1 802 = .ok (.goto (4), 3) := by decide +kernel
theorem d_LW_holds_805 : decode Y_LW_holds.2.1 805 = .ok (.iconst (0), 1) := by decide +kernel
theorem d_LW_holds_806 : decode Y_LW_holds.2.1 806 = .ok (.istore 6, 2) := by decide +kernel
theorem d_LW_holds_808 : decode Y_LW_holds.2.1 808 = .ok (.iinc 12 (1), 3) := by decide +kernel
theorem d_LW_holds_811 : decode Y_LW_holds.2.1 811 = .ok (.goto (-249), 3) := by decide +kernel
theorem d_LW_holds_814 : decode Y_LW_holds.2.1 814 = .ok (.iinc 11 (1), 3) := by decide +kernel
theorem d_LW_holds_817 : decode Y_LW_holds.2.1 817 = .ok (.goto (-386), 3) := by decide +kernel
theorem d_LW_holds_820 : decode Y_LW_holds.2.1 820 = .ok (.iconst (0), 1) := by decide +kernel
theorem d_LW_holds_821 : decode Y_LW_holds.2.1 821 = .ok (.istore 11, 2) := by decide +kernel
theorem d_LW_holds_823 : decode Y_LW_holds.2.1 823 = .ok (.iconst (0), 1) := by decide +kernel
theorem d_LW_holds_824 : decode Y_LW_holds.2.1 824 = .ok (.istore 12, 2) := by decide +kernel
theorem d_LW_holds_826 : decode Y_LW_holds.2.1 826 = .ok (.iload 12, 2) := by decide +kernel
theorem d_LW_holds_828 : decode Y_LW_holds.2.1 828 = .ok (.iload 4, 2) := by decide +kernel
theorem d_LW_holds_830 : decode Y_LW_holds.2.1 830 = .ok (.if_icmp .ge (125), 3) := by decide +kernel
theorem d_LW_holds_833 : decode Y_LW_holds.2.1 833 = .ok (.iload 6, 2) := by decide +kernel
theorem d_LW_holds_835 : decode Y_LW_holds.2.1 835 = .ok (.ifCond .eq (120), 3) := by decide +kernel
theorem d_LW_holds_838 : decode Y_LW_holds.2.1 838 = .ok (.aload_n 0, 1) := by decide +kernel
theorem d_LW_holds_839 : decode Y_LW_holds.2.1 839 = .ok (.bipush (6), 2) := by decide +kernel
theorem d_LW_holds_841 : decode Y_LW_holds.2.1 841 = .ok (.iload 12, 2) := by decide +kernel
theorem d_LW_holds_843 : decode Y_LW_holds.2.1 843 = .ok (.iconst (3), 1) := by decide +kernel
theorem d_LW_holds_844 : decode Y_LW_holds.2.1 844 = .ok (.iconst (0), 1) := by decide +kernel
theorem d_LW_holds_845 : decode Y_LW_holds.2.1 845 = .ok (.invokestatic 156, 3) := by decide +kernel
theorem d_LW_holds_848 : decode Y_LW_holds.2.1 848 = .ok (.istore 13, 2) := by decide +kernel
theorem d_LW_holds_850 : decode Y_LW_holds.2.1 850 = .ok (.aload_n 0, 1) := by decide +kernel
theorem d_LW_holds_851 : decode Y_LW_holds.2.1 851 = .ok (.bipush (6), 2) := by decide +kernel
theorem d_LW_holds_853 : decode Y_LW_holds.2.1 853 = .ok (.iload 12, 2) := by decide +kernel
theorem d_LW_holds_855 : decode Y_LW_holds.2.1 855 = .ok (.iconst (5), 1) := by decide +kernel
theorem d_LW_holds_856 : decode Y_LW_holds.2.1 856 = .ok (.iconst (0), 1) := by decide +kernel
theorem d_LW_holds_857 : decode Y_LW_holds.2.1 857 = .ok (.invokestatic 156, 3) := by decide +kernel
theorem d_LW_holds_860 : decode Y_LW_holds.2.1 860 = .ok (.istore 14, 2) := by decide +kernel
theorem d_LW_holds_862 : decode Y_LW_holds.2.1 862 = .ok (.iload 13, 2) := by decide +kernel
theorem d_LW_holds_864 : decode Y_LW_holds.2.1 864 = .ok (.iload 11, 2) := by decide +kernel
theorem d_LW_holds_866 : decode Y_LW_holds.2.1 866 = .ok (.if_icmp .lt (76), 3) := by decide +kernel
theorem d_LW_holds_869 : decode Y_LW_holds.2.1 869 = .ok (.iload 13, 2) := by decide +kernel
theorem d_LW_holds_871 : decode Y_LW_holds.2.1 871 = .ok (.ifCond .le (71), 3) := by decide +kernel
theorem d_LW_holds_874 : decode Y_LW_holds.2.1 874 = .ok (.iload 13, 2) := by decide +kernel
theorem d_LW_holds_876 : decode Y_LW_holds.2.1 876 = .ok (.iload 5, 2) := by decide +kernel
theorem d_LW_holds_878 : decode Y_LW_holds.2.1 878 = .ok (.if_icmp .gt (64), 3) := by decide +kernel
theorem d_LW_holds_881 : decode Y_LW_holds.2.1 881 = .ok (.iload 13, 2) := by decide +kernel
theorem d_LW_holds_883 : decode Y_LW_holds.2.1 883 = .ok (.aload_n 0, 1) := by decide +kernel
theorem d_LW_holds_884 : decode Y_LW_holds.2.1 884 = .ok (.iconst (3), 1) := by decide +kernel
theorem d_LW_holds_885 : decode Y_LW_holds.2.1 885 = .ok (.aload_n 0, 1) := by decide +kernel
theorem d_LW_holds_886 : decode Y_LW_holds.2.1 886 = .ok (.bipush (6), 2) := by decide +kernel
theorem d_LW_holds_888 : decode Y_LW_holds.2.1 888 = .ok (.iload 12, 2) := by decide +kernel
theorem d_LW_holds_890 : decode Y_LW_holds.2.1 890 = .ok (.iconst (0), 1) := by decide +kernel
theorem d_LW_holds_891 : decode Y_LW_holds.2.1 891 = .ok (.iconst (0), 1) := by decide +kernel
theorem d_LW_holds_892 : decode Y_LW_holds.2.1 892 = .ok (.invokestatic 156, 3) := by decide +kernel
theorem d_LW_holds_895 : decode Y_LW_holds.2.1 895 = .ok (.iconst (4), 1) := by decide +kernel
theorem d_LW_holds_896 : decode Y_LW_holds.2.1 896 = .ok (.iconst (0), 1) := by decide +kernel
theorem d_LW_holds_897 : decode Y_LW_holds.2.1 897 = .ok (.invokestatic 156, 3) := by decide +kernel
theorem d_LW_holds_900 : decode Y_LW_holds.2.1 900 = .ok (.irem, 1) := by decide +kernel
theorem d_LW_holds_901 : decode Y_LW_holds.2.1 901 = .ok (.ifCond .ne (41), 3) := by decide +kernel
theorem d_LW_holds_904 : decode Y_LW_holds.2.1 904 = .ok (.iload 14, 2) := by decide +kernel
theorem d_LW_holds_906 : decode Y_LW_holds.2.1 906 = .ok (.ifCond .lt (36), 3) := by decide +kernel
theorem d_LW_holds_909 : decode Y_LW_holds.2.1 909 = .ok (.iload 14, 2) := by decide +kernel
theorem d_LW_holds_911 : decode Y_LW_holds.2.1 911 = .ok (.iconst (1), 1) := by decide +kernel
theorem d_LW_holds_912 : decode Y_LW_holds.2.1 912 = .ok (.iload_n 3, 1) := by decide +kernel
theorem d_LW_holds_913 : decode Y_LW_holds.2.1 913 = .ok (.ishl, 1) := by decide +kernel
theorem d_LW_holds_914 : decode Y_LW_holds.2.1 914 = .ok (.if_icmp .ge (28), 3) := by decide +kernel
theorem d_LW_holds_917 : decode Y_LW_holds.2.1 917 = .ok (.aload_n 0, 1) := by decide +kernel
theorem d_LW_holds_918 : decode Y_LW_holds.2.1 918 = .ok (.bipush (6), 2) := by decide +kernel
theorem d_LW_holds_920 : decode Y_LW_holds.2.1 920 = .ok (.iload 12, 2) := by decide +kernel
theorem d_LW_holds_922 : decode Y_LW_holds.2.1 922 = .ok (.iconst (4), 1) := by decide +kernel
theorem d_LW_holds_923 : decode Y_LW_holds.2.1 923 = .ok (.iconst (0), 1) := by decide +kernel
theorem d_LW_holds_924 : decode Y_LW_holds.2.1 924 = .ok (.invokestatic 156, 3) := by decide +kernel
theorem d_LW_holds_927 : decode Y_LW_holds.2.1 927 = .ok (.aload_n 0, 1) := by decide +kernel
theorem d_LW_holds_928 : decode Y_LW_holds.2.1 928 = .ok (.iconst (2), 1) := by decide +kernel
theorem d_LW_holds_929 : decode Y_LW_holds.2.1 929 = .ok (.iconst (2), 1) := by decide +kernel
theorem d_LW_holds_930 : decode Y_LW_holds.2.1 930 = .ok (.iconst (0), 1) := by decide +kernel
theorem d_LW_holds_931 : decode Y_LW_holds.2.1 931 = .ok (.iconst (0), 1) := by decide +kernel
theorem d_LW_holds_932 : decode Y_LW_holds.2.1 932 = .ok (.invokestatic 156, 3) := by decide +kernel
theorem d_LW_holds_935 : decode Y_LW_holds.2.1 935 = .ok (.if_icmp .ge (7), 3) := by decide +kernel
theorem d_LW_holds_938 : decode Y_LW_holds.2.1 938 = .ok (.iconst (1), 1) := by decide +kernel
theorem d_LW_holds_939 : decode Y_LW_holds.2.1 939 = .ok (.goto (4), 3) := by decide +kernel
theorem d_LW_holds_942 : decode Y_LW_holds.2.1 942 = .ok (.iconst (0), 1) := by decide +kernel
theorem d_LW_holds_943 : decode Y_LW_holds.2.1 943 = .ok (.istore 6, 2) := by decide +kernel
theorem d_LW_holds_945 : decode Y_LW_holds.2.1 945 = .ok (.iload 13, 2) := by decide +kernel
theorem d_LW_holds_947 : decode Y_LW_holds.2.1 947 = .ok (.istore 11, 2) := by decide +kernel
theorem d_LW_holds_949 : decode Y_LW_holds.2.1 949 = .ok (.iinc 12 (1), 3) := by decide +kernel
theorem d_LW_holds_952 : decode Y_LW_holds.2.1 952 = .ok (.goto (-126), 3) := by decide +kernel
theorem d_LW_holds_955 : decode Y_LW_holds.2.1 955 = .ok (.iload 6, 2) := by decide +kernel
theorem d_LW_holds_957 : decode Y_LW_holds.2.1 957 = .ok (.ifCond .eq (88), 3) := by decide +kernel
theorem d_LW_holds_960 : decode Y_LW_holds.2.1 960 = .ok (.iload 7, 2) := by decide +kernel
theorem d_LW_holds_962 : decode Y_LW_holds.2.1 962 = .ok (.aload_n 0, 1) := by decide +kernel
theorem d_LW_holds_963 : decode Y_LW_holds.2.1 963 = .ok (.iconst (2), 1) := by decide +kernel
theorem d_LW_holds_964 : decode Y_LW_holds.2.1 964 = .ok (.bipush (6), 2) := by decide +kernel
theorem d_LW_holds_966 : decode Y_LW_holds.2.1 966 = .ok (.iconst (0), 1) := by decide +kernel
theorem d_LW_holds_967 : decode Y_LW_holds.2.1 967 = .ok (.iconst (0), 1) := by decide +kernel
theorem d_LW_holds_968 : decode Y_LW_holds.2.1 968 = .ok (.invokestatic 156, 3) := by decide +kernel
theorem d_LW_holds_971 : decode Y_LW_holds.2.1 971 = .ok (.if_icmp .ne (74), 3) := by decide +kernel
theorem d_LW_holds_974 : decode Y_LW_holds.2.1 974 = .ok (.iload 8, 2) := by decide +kernel
theorem d_LW_holds_976 : decode Y_LW_holds.2.1 976 = .ok (.aload_n 0, 1) := by decide +kernel
theorem d_LW_holds_977 : decode Y_LW_holds.2.1 977 = .ok (.iconst (2), 1) := by decide +kernel
theorem d_LW_holds_978 : decode Y_LW_holds.2.1 978 = .ok (.bipush (7), 2) := by decide +kernel
theorem d_LW_holds_980 : decode Y_LW_holds.2.1 980 = .ok (.iconst (0), 1) := by decide +kernel
theorem d_LW_holds_981 : decode Y_LW_holds.2.1 981 = .ok (.iconst (0), 1) := by decide +kernel
theorem d_LW_holds_982 : decode Y_LW_holds.2.1 982 = .ok (.invokestatic 156, 3) := by decide +kernel
theorem d_LW_holds_985 : decode Y_LW_holds.2.1 985 = .ok (.if_icmp .ne (60), 3) := by decide +kernel
theorem d_LW_holds_988 : decode Y_LW_holds.2.1 988 = .ok (.iload 9, 2) := by decide +kernel
theorem d_LW_holds_990 : decode Y_LW_holds.2.1 990 = .ok (.aload_n 0, 1) := by decide +kernel
theorem d_LW_holds_991 : decode Y_LW_holds.2.1 991 = .ok (.iconst (2), 1) := by decide +kernel
theorem d_LW_holds_992 : decode Y_LW_holds.2.1 992 = .ok (.bipush (8), 2) := by decide +kernel
theorem d_LW_holds_994 : decode Y_LW_holds.2.1 994 = .ok (.iconst (0), 1) := by decide +kernel
theorem d_LW_holds_995 : decode Y_LW_holds.2.1 995 = .ok (.iconst (0), 1) := by decide +kernel
theorem d_LW_holds_996 : decode Y_LW_holds.2.1 996 = .ok (.invokestatic 156, 3) := by decide +kernel
theorem d_LW_holds_999 : decode Y_LW_holds.2.1 999 = .ok (.if_icmp .ne (46), 3) := by decide +kernel
theorem d_LW_holds_1002 : decode Y_LW_holds.2.1 1002 = .ok (.iload 10, 2) := by decide +kernel
theorem d_LW_holds_1004 : decode Y_LW_holds.2.1 1004 = .ok (.aload_n 0, 1) := by decide +kernel
theorem d_LW_holds_1005 : decode Y_LW_holds.2.1 1005 = .ok (.iconst (2), 1) := by decide +kernel
theorem d_LW_holds_1006 : decode Y_LW_holds.2.1 1006 = .ok (.bipush (9), 2) := by decide +kernel
theorem d_LW_holds_1008 : decode Y_LW_holds.2.1 1008 = .ok (.iconst (0), 1) := by decide +kernel
theorem d_LW_holds_1009 : decode Y_LW_holds.2.1 1009 = .ok (.iconst (0), 1) := by decide +kernel
theorem d_LW_holds_1010 : decode Y_LW_holds.2.1 1010 = .ok (.invokestatic 156, 3) := by decide +kernel
theorem d_LW_holds_1013 : decode Y_LW_holds.2.1 1013 = .ok (.if_icmp .ne (32), 3) := by decide +kernel
theorem d_LW_holds_1016 : decode Y_LW_holds.2.1 1016 = .ok (.aload_n 0, 1) := by decide +kernel
theorem d_LW_holds_1017 : decode Y_LW_holds.2.1 1017 = .ok (.invokevirtual 188, 3) := by decide +kernel
theorem d_LW_holds_1020 : decode Y_LW_holds.2.1 1020 = .ok (.ifCond .ne (7), 3) := by decide +kernel
theorem d_LW_holds_1023 : decode Y_LW_holds.2.1 1023 = .ok (.iconst (1), 1) := by decide +kernel
theorem d_LW_holds_1024 : decode Y_LW_holds.2.1 1024 = .ok (.goto (4), 3) := by decide +kernel
theorem d_LW_holds_1027 : decode Y_LW_holds.2.1 1027 = .ok (.iconst (0), 1) := by decide +kernel
theorem d_LW_holds_1028 : decode Y_LW_holds.2.1 1028 = .ok (.iload 4, 2) := by decide +kernel
theorem d_LW_holds_1030 : decode Y_LW_holds.2.1 1030 = .ok (.ifCond .ne (7), 3) := by decide +kernel
theorem d_LW_holds_1033 : decode Y_LW_holds.2.1 1033 = .ok (.iconst (1), 1) := by decide +kernel
theorem d_LW_holds_1034 : decode Y_LW_holds.2.1 1034 = .ok (.goto (4), 3) := by decide +kernel
theorem d_LW_holds_1037 : decode Y_LW_holds.2.1 1037 = .ok (.iconst (0), 1) := by decide +kernel
theorem d_LW_holds_1038 : decode Y_LW_holds.2.1 1038 = .ok (.if_icmp .ne (7), 3) := by decide +kernel
theorem d_LW_holds_1041 : decode Y_LW_holds.2.1 1041 = .ok (.iconst (1), 1) := by decide +kernel
theorem d_LW_holds_1042 : decode Y_LW_holds.2.1 1042 = .ok (.goto (4), 3) := by decide +kernel
theorem d_LW_holds_1045 : decode Y_LW_holds.2.1 1045 = .ok (.iconst (0), 1) := by decide +kernel
theorem d_LW_holds_1046 : decode Y_LW_holds.2.1 1046 = .ok (.ireturn, 1) := by decide +kernel
def f_LW_holds (w : zW) (D : zD) (r0 : Nat) (x1 : Int32) : Option (Int32 × zD) := zjp (fun (x2 : Int32) (x3 : Int32) (x4 : Int32) (x5 : Int32) (s0 : Int32) (D1 : zD) => zjp (zlp (fun (_ : Int32) (_ : Int32) (_ : Int32) (_ : Int32) (_ : Int32) (_ : Int32) (_ : Int32) (_ : Int32) (_ : Int32) (_ : Int32) (_ : zD) => none) (fun (j90 : Int32 → Int32 → Int32 → Int32 → Int32 → Int32 → Int32 → Int32 → Int32 → Int32 → zD → Option (Int32 × zD)) (x2 : Int32) (x3 : Int32) (x4 : Int32) (x5 : Int32) (x6 : Int32) (x7 : Int32) (x8 : Int32) (x9 : Int32) (x10 : Int32) (x11 : Int32) (D3 : zD) => zjp (fun (x2 : Int32) (x3 : Int32) (x4 : Int32) (x5 : Int32) (x6 : Int32) (x7 : Int32) (x8 : Int32) (x9 : Int32) (x10 : Int32) (D5 : zD) => zjp (zlp (fun (_ : Int32) (_ : Int32) (_ : Int32) (_ : Int32) (_ : Int32) (_ : Int32) (_ : Int32) (_ : Int32) (_ : Int32) (_ : Int32) (_ : zD) => none) (fun (j431 : Int32 → Int32 → Int32 → Int32 → Int32 → Int32 → Int32 → Int32 → Int32 → Int32 → zD → Option (Int32 × zD)) (x2 : Int32) (x3 : Int32) (x4 : Int32) (x5 : Int32) (x6 : Int32) (x7 : Int32) (x8 : Int32) (x9 : Int32) (x10 : Int32) (x11 : Int32) (D7 : zD) => zjp (fun (x3 : Int32) (x4 : Int32) (x5 : Int32) (x6 : Int32) (x7 : Int32) (x8 : Int32) (x9 : Int32) (x10 : Int32) (D9 : zD) => zjp (zlp (fun (_ : Int32) (_ : Int32) (_ : Int32) (_ : Int32) (_ : Int32) (_ : Int32) (_ : Int32) (_ : Int32) (_ : Int32) (_ : Int32) (_ : zD) => none) (fun (j826 : Int32 → Int32 → Int32 → Int32 → Int32 → Int32 → Int32 → Int32 → Int32 → Int32 → zD → Option (Int32 × zD)) (x3 : Int32) (x4 : Int32) (x5 : Int32) (x6 : Int32) (x7 : Int32) (x8 : Int32) (x9 : Int32) (x10 : Int32) (x11 : Int32) (x12 : Int32) (D11 : zD) => zjp (fun (x4 : Int32) (x6 : Int32) (x7 : Int32) (x8 : Int32) (x9 : Int32) (x10 : Int32) (D13 : zD) => zjp (fun (s0 : Int32) (D15 : zD) => zchk (s0 = 0 ∨ s0 = 1) (some (s0, D15))) (fun j1046 => zjp (fun (D17 : zD) => j1046 (0 : Int32) D17) (fun j1045 => (if x6 = 0 then j1045 D13 else zci (f_LW_call w D13 r0 (2 : Int32) (6 : Int32) (0 : Int32) (0 : Int32)) (fun v19 D20 => (if x7 = v19 then zci (f_LW_call w D20 r0 (2 : Int32) (7 : Int32) (0 : Int32) (0 : Int32)) (fun v22 D23 => (if x8 = v22 then zci (f_LW_call w D23 r0 (2 : Int32) (8 : Int32) (0 : Int32) (0 : Int32)) (fun v25 D26 => (if x9 = v25 then zci (f_LW_call w D26 r0 (2 : Int32) (9 : Int32) (0 : Int32) (0 : Int32)) (fun v28 D29 => (if x10 = v28 then zjp (fun (x4 : Int32) (s0 : Int32) (D31 : zD) => zjp (fun (s0 : Int32) (s1 : Int32) (D33 : zD) => (if s0 = s1 then j1046 (1 : Int32) D33 else j1045 D33)) (fun j1038 => (if x4 = 0 then j1038 s0 (1 : Int32) D31 else j1038 s0 (0 : Int32) D31))) (fun j1028 => zobj w 0 r0 (zci (f_SF_quietIn w D29 r0 ) (fun v35 D36 => (if v35 = 0 then j1028 x4 (1 : Int32) D36 else j1028 x4 (0 : Int32) D36)))) else j1045 D29)) else j1045 D26)) else j1045 D23)) else j1045 D20)))))) (fun j955 => (if x4 ≤ x12 then j955 x4 x6 x7 x8 x9 x10 D11 else (if x6 = 0 then j955 x4 x6 x7 x8 x9 x10 D11 else zjp (fun (x3 : Int32) (x4 : Int32) (x5 : Int32) (x7 : Int32) (x8 : Int32) (x9 : Int32) (x10 : Int32) (x12 : Int32) (x13 : Int32) (s0 : Int32) (D37 : zD) => zlet (x12 + (1 : Int32)) (fun v39 => j826 x3 x4 x5 s0 x7 x8 x9 x10 x13 v39 D37)) (fun j943 => zjp (fun (x3 : Int32) (x4 : Int32) (x5 : Int32) (x7 : Int32) (x8 : Int32) (x9 : Int32) (x10 : Int32) (x12 : Int32) (x13 : Int32) (D40 : zD) => j943 x3 x4 x5 x7 x8 x9 x10 x12 x13 (0 : Int32) D40) (fun j942 => zci (f_LW_call w D11 r0 (6 : Int32) x12 (3 : Int32) (0 : Int32)) (fun v42 D43 => zci (f_LW_call w D43 r0 (6 : Int32) x12 (5 : Int32) (0 : Int32)) (fun v45 D46 => (if v42 < x11 then j942 x3 x4 x5 x7 x8 x9 x10 x12 v42 D46 else (if v42 ≤ 0 then j942 x3 x4 x5 x7 x8 x9 x10 x12 v42 D46 else (if x5 < v42 then j942 x3 x4 x5 x7 x8 x9 x10 x12 v42 D46 else zci (f_LW_call w D46 r0 (6 : Int32) x12 (0 : Int32) (0 : Int32)) (fun v48 D49 => zci (f_LW_call w D49 r0 (3 : Int32) v48 (4 : Int32) (0 : Int32)) (fun v51 D52 => zchk (¬ v51 = 0) ((if (zirem v42 v51) = 0 then (if v45 < 0 then j942 x3 x4 x5 x7 x8 x9 x10 x12 v42 D52 else (if ((1 : Int32) <<< (x3 &&& 31)) ≤ v45 then j942 x3 x4 x5 x7 x8 x9 x10 x12 v42 D52 else zci (f_LW_call w D52 r0 (6 : Int32) x12 (4 : Int32) (0 : Int32)) (fun v54 D55 => zci (f_LW_call w D55 r0 (2 : Int32) (2 : Int32) (0 : Int32) (0 : Int32)) (fun v57 D58 => (if v57 ≤ v54 then j942 x3 x4 x5 x7 x8 x9 x10 x12 v42 D58 else j943 x3 x4 x5 x7 x8 x9 x10 x12 v42 (1 : Int32) D58))))) else j942 x3 x4 x5 x7 x8 x9 x10 x12 v42 D52))))))))))))))) 62) (fun j826 => j826 x3 x4 x5 x6 x7 x8 x9 x10 (0 : Int32) (0 : Int32) D9)) (fun j820 => (if x3 ≤ x11 then j820 x3 x4 x5 x6 x7 x8 x9 x10 D7 else (if x6 = 0 then j820 x3 x4 x5 x6 x7 x8 x9 x10 D7 else zjp (fun (x2 : Int32) (x3 : Int32) (x4 : Int32) (x5 : Int32) (x7 : Int32) (x8 : Int32) (x9 : Int32) (x10 : Int32) (x11 : Int32) (s0 : Int32) (D60 : zD) => zjp (zlp (fun (_ : Int32) (_ : Int32) (_ : Int32) (_ : Int32) (_ : Int32) (_ : Int32) (_ : Int32) (_ : Int32) (_ : Int32) (_ : Int32) (_ : Int32) (_ : zD) => none) (fun (j562 : Int32 → Int32 → Int32 → Int32 → Int32 → Int32 → Int32 → Int32 → Int32 → Int32 → Int32 → zD → Option (Int32 × zD)) (x2 : Int32) (x3 : Int32) (x4 : Int32) (x5 : Int32) (x6 : Int32) (x7 : Int32) (x8 : Int32) (x9 : Int32) (x10 : Int32) (x11 : Int32) (x12 : Int32) (D62 : zD) => zjp (fun (x2 : Int32) (x3 : Int32) (x4 : Int32) (x5 : Int32) (x6 : Int32) (x7 : Int32) (x8 : Int32) (x9 : Int32) (x10 : Int32) (x11 : Int32) (D64 : zD) => zlet (x11 + (1 : Int32)) (fun v66 => j431 x2 x3 x4 x5 x6 x7 x8 x9 x10 v66 D64)) (fun j814 => (if x2 ≤ x12 then j814 x2 x3 x4 x5 x6 x7 x8 x9 x10 x11 D62 else (if x6 = 0 then j814 x2 x3 x4 x5 x6 x7 x8 x9 x10 x11 D62 else zjp (fun (x2 : Int32) (x3 : Int32) (x4 : Int32) (x5 : Int32) (x7 : Int32) (x8 : Int32) (x9 : Int32) (x10 : Int32) (x11 : Int32) (x12 : Int32) (x13 : Int32) (x14 : Int32) (x15 : Int32) (x16 : Int32) (s0 : Int32) (s1 : Int32) (D67 : zD) => zjp (fun (x2 : Int32) (x3 : Int32) (x4 : Int32) (x5 : Int32) (x7 : Int32) (x8 : Int32) (x9 : Int32) (x10 : Int32) (x11 : Int32) (x12 : Int32) (s0 : Int32) (D69 : zD) => zlet (x12 + (1 : Int32)) (fun v71 => j562 x2 x3 x4 x5 s0 x7 x8 x9 x10 x11 v71 D69)) (fun j806 => zjp (fun (x2 : Int32) (x3 : Int32) (x4 : Int32) (x5 : Int32) (x7 : Int32) (x8 : Int32) (x9 : Int32) (x10 : Int32) (x11 : Int32) (x12 : Int32) (D72 : zD) => j806 x2 x3 x4 x5 x7 x8 x9 x10 x11 x12 (0 : Int32) D72) (fun j805 => (if s1 < s0 then j805 x2 x3 x4 x5 x7 x8 x9 x10 x11 x12 D67 else zjp (fun (x2 : Int32) (x3 : Int32) (x4 : Int32) (x5 : Int32) (x7 : Int32) (x8 : Int32) (x9 : Int32) (x10 : Int32) (x11 : Int32) (x12 : Int32) (x13 : Int32) (x14 : Int32) (x15 : Int32) (x16 : Int32) (s0 : Int32) (D74 : zD) => zjp (fun (x2 : Int32) (x3 : Int32) (x4 : Int32) (x5 : Int32) (x7 : Int32) (x8 : Int32) (x9 : Int32) (x10 : Int32) (x11 : Int32) (x12 : Int32) (x13 : Int32) (x14 : Int32) (x15 : Int32) (x16 : Int32) (s0 : Int32) (s1 : Int32) (D76 : zD) => (if s0 = s1 then zci (f_LW_call w D76 r0 (7 : Int32) x11 x12 (3 : Int32)) (fun v78 D79 => (if x5 < v78 then j805 x2 x3 x4 x5 x7 x8 x9 x10 x11 x12 D79 else zjp (fun (x2 : Int32) (x3 : Int32) (x4 : Int32) (x5 : Int32) (x7 : Int32) (x8 : Int32) (x9 : Int32) (x10 : Int32) (x11 : Int32) (x12 : Int32) (x13 : Int32) (x14 : Int32) (x15 : Int32) (x16 : Int32) (s0 : Int32) (D81 : zD) => zjp (fun (x2 : Int32) (x3 : Int32) (x4 : Int32) (x5 : Int32) (x7 : Int32) (x8 : Int32) (x9 : Int32) (x10 : Int32) (x11 : Int32) (x12 : Int32) (x14 : Int32) (x15 : Int32) (x16 : Int32) (s0 : Int32) (s1 : Int32) (D83 : zD) => (if s0 = s1 then zjp (fun (x2 : Int32) (x3 : Int32) (x4 : Int32) (x5 : Int32) (x7 : Int32) (x8 : Int32) (x9 : Int32) (x10 : Int32) (x11 : Int32) (x12 : Int32) (s0 : Int32) (s1 : Int32) (D85 : zD) => (if s0 = s1 then j806 x2 x3 x4 x5 x7 x8 x9 x10 x11 x12 (1 : Int32) D85 else j805 x2 x3 x4 x5 x7 x8 x9 x10 x11 x12 D85)) (fun j798 => (if x14 = (-1 : Int32) then j798 x2 x3 x4 x5 x7 x8 x9 x10 x11 x12 x15 (-1 : Int32) D83 else (if x16 ≤ x14 then (if x14 ≤ x16 then j798 x2 x3 x4 x5 x7 x8 x9 x10 x11 x12 x15 (0 : Int32) D83 else j798 x2 x3 x4 x5 x7 x8 x9 x10 x11 x12 x15 (2 : Int32) D83) else j798 x2 x3 x4 x5 x7 x8 x9 x10 x11 x12 x15 (1 : Int32) D83))) else j805 x2 x3 x4 x5 x7 x8 x9 x10 x11 x12 D83)) (fun j760 => (if (2 : Int32) ≤ x13 then j760 x2 x3 x4 x5 x7 x8 x9 x10 x11 x12 x14 x15 x16 s0 (0 : Int32) D81 else j760 x2 x3 x4 x5 x7 x8 x9 x10 x11 x12 x14 x15 x16 s0 (1 : Int32) D81))) (fun j749 => (if x14 = (-1 : Int32) then j749 x2 x3 x4 x5 x7 x8 x9 x10 x11 x12 x13 x14 x15 x16 (1 : Int32) D79 else j749 x2 x3 x4 x5 x7 x8 x9 x10 x11 x12 x13 x14 x15 x16 (0 : Int32) D79)))) else j805 x2 x3 x4 x5 x7 x8 x9 x10 x11 x12 D76)) (fun j719 => (if x13 = 0 then j719 x2 x3 x4 x5 x7 x8 x9 x10 x11 x12 x13 x14 x15 x16 s0 (1 : Int32) D74 else j719 x2 x3 x4 x5 x7 x8 x9 x10 x11 x12 x13 x14 x15 x16 s0 (0 : Int32) D74))) (fun j709 => zci (f_LW_call w D67 r0 (7 : Int32) x11 x12 (3 : Int32)) (fun v87 D88 => (if v87 = (-1 : Int32) then j709 x2 x3 x4 x5 x7 x8 x9 x10 x11 x12 x13 x14 x15 x16 (1 : Int32) D88 else j709 x2 x3 x4 x5 x7 x8 x9 x10 x11 x12 x13 x14 x15 x16 (0 : Int32) D88))))))) (fun j686 => zci (f_LW_call w D62 r0 (7 : Int32) x11 x12 (0 : Int32)) (fun v90 D91 => zci (f_LW_call w D91 r0 (7 : Int32) x11 x12 (4 : Int32)) (fun v93 D94 => zci (f_LW_call w D94 r0 (7 : Int32) x11 x12 (5 : Int32)) (fun v96 D97 => zci (f_LW_call w D97 r0 (3 : Int32) x12 (4 : Int32) (0 : Int32)) (fun v99 D100 => zlet (x7 + v90) (fun v102 => zci (f_LW_call w D100 r0 (7 : Int32) x11 x12 (1 : Int32)) (fun v103 D104 => zlet (x8 + v103) (fun v106 => zci (f_LW_call w D104 r0 (7 : Int32) x11 x12 (2 : Int32)) (fun v107 D108 => zlet (x9 + v107) (fun v110 => zci (f_LW_call w D108 r0 (7 : Int32) x11 x12 (2 : Int32)) (fun v111 D112 => (if v90 ≤ 0 then j686 x2 x3 x4 x5 v102 v106 v110 x10 x11 x12 v90 v93 v96 v99 v111 (0 : Int32) D112 else j686 x2 x3 x4 x5 v102 v106 v110 x10 x11 x12 v90 v93 v96 v99 v111 (v90 - (1 : Int32)) D112)))))))))))))))) 6) (fun j562 => j562 x2 x3 x4 x5 s0 x7 x8 x9 x10 x11 (0 : Int32) D60)) (fun j557 => zjp (fun (x2 : Int32) (x3 : Int32) (x4 : Int32) (x5 : Int32) (x7 : Int32) (x8 : Int32) (x9 : Int32) (x10 : Int32) (x11 : Int32) (D114 : zD) => j557 x2 x3 x4 x5 x7 x8 x9 x10 x11 (0 : Int32) D114) (fun j556 => zci (f_LW_call w D7 r0 (4 : Int32) x11 (4 : Int32) (0 : Int32)) (fun v116 D117 => zlet (x10 + v116) (fun v119 => zci (f_LW_call w D117 r0 (4 : Int32) x11 (0 : Int32) (0 : Int32)) (fun v120 D121 => zci (f_LW_size w D121 v120) (fun v123 D124 => (if (40 : Int32) < v123 then j556 x2 x3 x4 x5 x7 x8 x9 v119 x11 D124 else zci (f_LW_call w D124 r0 (4 : Int32) x11 (1 : Int32) (0 : Int32)) (fun v125 D126 => zci (f_LW_size w D126 v125) (fun v128 D129 => (if (40 : Int32) < v128 then j556 x2 x3 x4 x5 x7 x8 x9 v119 x11 D129 else zci (f_LW_call w D129 r0 (4 : Int32) x11 (2 : Int32) (0 : Int32)) (fun v130 D131 => zci (f_LW_size w D131 v130) (fun v133 D134 => (if (2 : Int32) < v133 then j556 x2 x3 x4 x5 x7 x8 x9 v119 x11 D134 else zci (f_LW_call w D134 r0 (4 : Int32) x11 (3 : Int32) (0 : Int32)) (fun v135 D136 => zci (f_LW_size w D136 v135) (fun v138 D139 => (if (2 : Int32) < v138 then j556 x2 x3 x4 x5 x7 x8 x9 v119 x11 D139 else zjp (fun (x2 : Int32) (x3 : Int32) (x4 : Int32) (x5 : Int32) (x7 : Int32) (x8 : Int32) (x9 : Int32) (x10 : Int32) (x11 : Int32) (s0 : Int32) (D140 : zD) => zjp (fun (x2 : Int32) (x3 : Int32) (x4 : Int32) (x5 : Int32) (x7 : Int32) (x8 : Int32) (x9 : Int32) (x10 : Int32) (x11 : Int32) (s0 : Int32) (s1 : Int32) (D142 : zD) => (if s0 = s1 then j557 x2 x3 x4 x5 x7 x8 x9 x10 x11 (1 : Int32) D142 else j556 x2 x3 x4 x5 x7 x8 x9 x10 x11 D142)) (fun j549 => (if x2 = 0 then j549 x2 x3 x4 x5 x7 x8 x9 x10 x11 s0 (1 : Int32) D140 else j549 x2 x3 x4 x5 x7 x8 x9 x10 x11 s0 (0 : Int32) D140))) (fun j540 => zci (f_LW_call w D139 r0 (4 : Int32) x11 (5 : Int32) (0 : Int32)) (fun v144 D145 => (if v144 = (-1 : Int32) then j540 x2 x3 x4 x5 x7 x8 x9 v119 x11 (1 : Int32) D145 else j540 x2 x3 x4 x5 x7 x8 x9 v119 x11 (0 : Int32) D145))))))))))))))))))))))) 6) (fun j431 => j431 x2 x3 x4 x5 x6 x7 x8 x9 x10 (0 : Int32) D5)) (fun j428 => (if x2 ≤ x11 then j428 x2 x3 x4 x5 x6 x7 x8 x9 x10 D3 else (if x6 = 0 then j428 x2 x3 x4 x5 x6 x7 x8 x9 x10 D3 else zjp (fun (x2 : Int32) (x3 : Int32) (x4 : Int32) (x5 : Int32) (x7 : Int32) (x8 : Int32) (x9 : Int32) (x10 : Int32) (x11 : Int32) (s0 : Int32) (D147 : zD) => zlet (x11 + (1 : Int32)) (fun v149 => j90 x2 x3 x4 x5 s0 x7 x8 x9 x10 v149 D147)) (fun j420 => zjp (fun (x2 : Int32) (x3 : Int32) (x4 : Int32) (x5 : Int32) (x7 : Int32) (x8 : Int32) (x9 : Int32) (x10 : Int32) (x11 : Int32) (D150 : zD) => j420 x2 x3 x4 x5 x7 x8 x9 x10 x11 (0 : Int32) D150) (fun j419 => zci (f_LW_call w D3 r0 (3 : Int32) x11 (2 : Int32) (0 : Int32)) (fun v152 D153 => zci (f_LW_call w D153 r0 (3 : Int32) x11 (6 : Int32) (0 : Int32)) (fun v155 D156 => zci (f_LW_call w D156 r0 (3 : Int32) x11 (7 : Int32) (0 : Int32)) (fun v158 D159 => zci (f_LW_call w D159 r0 (3 : Int32) x11 (0 : Int32) (0 : Int32)) (fun v161 D162 => zlet (v158 - v161) (fun v164 => zci (f_LW_call w D162 r0 (3 : Int32) x11 (8 : Int32) (0 : Int32)) (fun v165 D166 => zci (f_LW_call w D166 r0 (3 : Int32) x11 (1 : Int32) (0 : Int32)) (fun v168 D169 => zlet (v165 - v168) (fun v171 => (if v155 < 0 then j419 x2 x3 x4 x5 x7 x8 x9 x10 x11 D169 else (if ((8 : Int32) * v152) ≤ v155 then j419 x2 x3 x4 x5 x7 x8 x9 x10 x11 D169 else zci (f_LW_size w D169 v164) (fun v172 D173 => (if v152 < v172 then j419 x2 x3 x4 x5 x7 x8 x9 x10 x11 D173 else zci (f_LW_size w D173 v171) (fun v174 D175 => (if v152 < v174 then j419 x2 x3 x4 x5 x7 x8 x9 x10 x11 D175 else zjp (fun (x2 : Int32) (x3 : Int32) (x4 : Int32) (x5 : Int32) (x7 : Int32) (x8 : Int32) (x9 : Int32) (x10 : Int32) (x11 : Int32) (x12 : Int32) (x13 : Int32) (x14 : Int32) (x15 : Int32) (D176 : zD) => zjp (fun (x2 : Int32) (x3 : Int32) (x4 : Int32) (x5 : Int32) (x7 : Int32) (x8 : Int32) (x9 : Int32) (x10 : Int32) (x11 : Int32) (x12 : Int32) (x13 : Int32) (x14 : Int32) (x15 : Int32) (D178 : zD) => zjp (fun (x2 : Int32) (x3 : Int32) (x4 : Int32) (x5 : Int32) (x7 : Int32) (x8 : Int32) (x9 : Int32) (x10 : Int32) (x11 : Int32) (x13 : Int32) (D180 : zD) => zjp (fun (x2 : Int32) (x3 : Int32) (x4 : Int32) (x5 : Int32) (x7 : Int32) (x8 : Int32) (x9 : Int32) (x10 : Int32) (x11 : Int32) (x13 : Int32) (D182 : zD) => zjp (fun (x2 : Int32) (x3 : Int32) (x4 : Int32) (x5 : Int32) (x7 : Int32) (x8 : Int32) (x9 : Int32) (x10 : Int32) (x11 : Int32) (x13 : Int32) (D184 : zD) => zci (f_LW_call w D184 r0 (12 : Int32) x11 (zirem x1 (1001 : Int32)) (0 : Int32)) (fun v186 D187 => zci (f_LW_call w D187 r0 (12 : Int32) x11 (zirem x1 (1001 : Int32)) (1 : Int32)) (fun v189 D190 => (if v186 = v189 then zci (f_LW_call w D190 r0 (12 : Int32) x11 (0 : Int32) (1 : Int32)) (fun v192 D193 => (if v192 = x13 then j420 x2 x3 x4 x5 x7 x8 x9 x10 x11 (1 : Int32) D193 else j419 x2 x3 x4 x5 x7 x8 x9 x10 x11 D193)) else j419 x2 x3 x4 x5 x7 x8 x9 x10 x11 D190)))) (fun j369 => zci (f_LW_call w D182 r0 (3 : Int32) x11 (3 : Int32) (0 : Int32)) (fun v195 D196 => zci (f_LW_size w D196 v195) (fun v198 D199 => zci (f_LW_call w D199 r0 (3 : Int32) (0 : Int32) (3 : Int32) (0 : Int32)) (fun v200 D201 => zci (f_LW_size w D201 v200) (fun v203 D204 => (if v198 ≤ v203 then zci (f_LW_call w D204 r0 (3 : Int32) x11 (9 : Int32) (0 : Int32)) (fun v205 D206 => zci (f_LW_call w D206 r0 (3 : Int32) (0 : Int32) (9 : Int32) (0 : Int32)) (fun v208 D209 => (if v208 < v205 then j419 x2 x3 x4 x5 x7 x8 x9 x10 x11 D209 else j369 x2 x3 x4 x5 x7 x8 x9 x10 x11 x13 D209))) else zci (f_LW_call w D204 r0 (3 : Int32) x11 (9 : Int32) (0 : Int32)) (fun v211 D212 => zci (f_LW_call w D212 r0 (3 : Int32) (0 : Int32) (9 : Int32) (0 : Int32)) (fun v214 D215 => (if v211 < v214 then j419 x2 x3 x4 x5 x7 x8 x9 x10 x11 D215 else j369 x2 x3 x4 x5 x7 x8 x9 x10 x11 x13 D215)))))))))) (fun j296 => zci (f_LW_call w D180 r0 (3 : Int32) x11 (9 : Int32) (0 : Int32)) (fun v217 D218 => (if v217 = 0 then j296 x2 x3 x4 x5 x7 x8 x9 x10 x11 x13 D218 else zci (f_LW_call w D218 r0 (3 : Int32) x11 (3 : Int32) (0 : Int32)) (fun v220 D221 => zci (f_LW_size w D221 v220) (fun v223 D224 => (if v223 ≤ (1 : Int32) then j419 x2 x3 x4 x5 x7 x8 x9 x10 x11 D224 else j296 x2 x3 x4 x5 x7 x8 x9 x10 x11 x13 D224))))))) (fun j267 => (if x13 = ((4 : Int32) * x12) then (if x14 = x12 then (if x15 = x12 then j267 x2 x3 x4 x5 x7 x8 x9 x10 x11 x13 D178 else j419 x2 x3 x4 x5 x7 x8 x9 x10 x11 D178) else j419 x2 x3 x4 x5 x7 x8 x9 x10 x11 D178) else j267 x2 x3 x4 x5 x7 x8 x9 x10 x11 x13 D178))) (fun j244 => (if x13 = 0 then (if x14 = (-x12) then (if x15 = (-x12) then j244 x2 x3 x4 x5 x7 x8 x9 x10 x11 x12 x13 x14 x15 D176 else j419 x2 x3 x4 x5 x7 x8 x9 x10 x11 D176) else j419 x2 x3 x4 x5 x7 x8 x9 x10 x11 D176) else j244 x2 x3 x4 x5 x7 x8 x9 x10 x11 x12 x13 x14 x15 D176))) (fun j223 => zci (f_LW_size w D175 v164) (fun v225 D226 => (if v225 = v152 then j223 x2 x3 x4 x5 x7 x8 x9 x10 x11 v152 v155 v164 v171 D226 else zci (f_LW_size w D226 v171) (fun v227 D228 => (if v227 = v152 then j223 x2 x3 x4 x5 x7 x8 x9 x10 x11 v152 v155 v164 v171 D228 else j419 x2 x3 x4 x5 x7 x8 x9 x10 x11 D228))))))))))))))))))))))))) 6) (fun j90 => j90 x2 x3 x4 x5 s0 (0 : Int32) (0 : Int32) (0 : Int32) (0 : Int32) (0 : Int32) D1)) (fun j73 => zjp (fun (x2 : Int32) (x3 : Int32) (x4 : Int32) (x5 : Int32) (D229 : zD) => j73 x2 x3 x4 x5 (0 : Int32) D229) (fun j72 => zci (f_LW_call w D r0 (2 : Int32) (0 : Int32) (0 : Int32) (0 : Int32)) (fun v231 D232 => zci (f_LW_call w D232 r0 (2 : Int32) (1 : Int32) (0 : Int32) (0 : Int32)) (fun v234 D235 => zci (f_LW_call w D235 r0 (2 : Int32) (4 : Int32) (0 : Int32) (0 : Int32)) (fun v237 D238 => zci (f_LW_call w D238 r0 (2 : Int32) (3 : Int32) (0 : Int32) (0 : Int32)) (fun v240 D241 => (if (4 : Int32) < v231 then j72 v231 v234 v237 v240 D241 else (if (4 : Int32) < v234 then j72 v231 v234 v237 v240 D241 else (if (60 : Int32) < v237 then j72 v231 v234 v237 v240 D241 else zci (f_LW_call w D241 r0 (2 : Int32) (5 : Int32) (0 : Int32) (0 : Int32)) (fun v243 D244 => (if v243 < v237 then j72 v231 v234 v237 v240 D244 else j73 v231 v234 v237 v240 (1 : Int32) D244)))))))))))
set_option maxHeartbeats 8000000 in
set_option maxRecDepth 100000 in
theorem c_LW_holds (z : zT) (D : zD) (r0 : Nat) (x1 : Int32) : zM Y_LW_holds 11 831 4986 (zqY z.2) (f_LW_holds z.2 D r0 x1) [.ref r0, .int x1] z D := by
  refine zM_of (plainFor_of_name (by decide +kernel)) rfl (Nat.le_of_ble_eq_true rfl) (fun _ _ _ _ h => nomatch h.1) (fun K => ?_)
  obtain ⟨n0, w⟩ := z
  show zGO K Y_LW_holds 11 831 4986 (zqY w) (f_LW_holds w D r0 x1) 831 4986 (n0, w) D 0 [(0, .ref r0), (1, .int x1)] []
  unfold f_LW_holds
  refine z_jp (fun j73 : Int32 → Int32 → Int32 → Int32 → Int32 → zD → Option (Int32 × zD) => ∀ (x2 : Int32) (x3 : Int32) (x4 : Int32) (x5 : Int32) (s0 : Int32) (m2 : Nat) (D1 : zD), zGO K Y_LW_holds 11 831 4986 (zqY w) (j73 x2 x3 x4 x5 s0 D1) 826 4956 (m2, w) D1 73 [(0, .ref r0), (1, .int x1), (2, .int x2), (3, .int x3), (4, .int x4), (5, .int x5)] [.int s0]) (fun x2 x3 x4 x5 s0 m2 D1 => ?_) (fun j73 h73 => ?_)
  · refine z_jp (fun j90 : Int32 → Int32 → Int32 → Int32 → Int32 → Int32 → Int32 → Int32 → Int32 → Int32 → zD → Option (Int32 × zD) => ∀ (x2 : Int32) (x3 : Int32) (x4 : Int32) (x5 : Int32) (x6 : Int32) (x7 : Int32) (x8 : Int32) (x9 : Int32) (x10 : Int32) (x11 : Int32) (m4 : Nat) (D3 : zD), zGO K Y_LW_holds 11 831 4986 (zqY w) (j90 x2 x3 x4 x5 x6 x7 x8 x9 x10 x11 D3) (6 * 15 + 736) (6 * 90 + 4416) (m4, w) D3 90 [(0, .ref r0), (1, .int x1), (2, .int x2), (3, .int x3), (4, .int x4), (5, .int x5), (6, .int x6), (7, .int x7), (8, .int x8), (9, .int x9), (10, .int x10), (11, .int x11)] []) (z_lpA (fun (n90 : Nat) (j90 : Int32 → Int32 → Int32 → Int32 → Int32 → Int32 → Int32 → Int32 → Int32 → Int32 → zD → Option (Int32 × zD)) => ∀ (x2 : Int32) (x3 : Int32) (x4 : Int32) (x5 : Int32) (x6 : Int32) (x7 : Int32) (x8 : Int32) (x9 : Int32) (x10 : Int32) (x11 : Int32) (m4 : Nat) (D3 : zD), zGO K Y_LW_holds 11 831 4986 (zqY w) (j90 x2 x3 x4 x5 x6 x7 x8 x9 x10 x11 D3) (n90 * 15 + 736) (n90 * 90 + 4416) (m4, w) D3 90 [(0, .ref r0), (1, .int x1), (2, .int x2), (3, .int x3), (4, .int x4), (5, .int x5), (6, .int x6), (7, .int x7), (8, .int x8), (9, .int x9), (10, .int x10), (11, .int x11)] []) (fun _ _ _ _ _ _ _ _ _ _ _ _ => z_none) (fun n90 j90 h90 x2 x3 x4 x5 x6 x7 x8 x9 x10 x11 m4 D3 => ?_) 6) (fun j90 h90 => ?_)
    · refine z_jp (fun j428 : Int32 → Int32 → Int32 → Int32 → Int32 → Int32 → Int32 → Int32 → Int32 → zD → Option (Int32 × zD) => ∀ (x2 : Int32) (x3 : Int32) (x4 : Int32) (x5 : Int32) (x6 : Int32) (x7 : Int32) (x8 : Int32) (x9 : Int32) (x10 : Int32) (m6 : Nat) (D5 : zD), zGO K Y_LW_holds 11 831 4986 (zqY w) (j428 x2 x3 x4 x5 x6 x7 x8 x9 x10 D5) 736 4416 (m6, w) D5 428 [(0, .ref r0), (2, .int x2), (3, .int x3), (4, .int x4), (5, .int x5), (6, .int x6), (7, .int x7), (8, .int x8), (9, .int x9), (10, .int x10)] []) (fun x2 x3 x4 x5 x6 x7 x8 x9 x10 m6 D5 => ?_) (fun j428 h428 => ?_)
      · refine z_jp (fun j431 : Int32 → Int32 → Int32 → Int32 → Int32 → Int32 → Int32 → Int32 → Int32 → Int32 → zD → Option (Int32 × zD) => ∀ (x2 : Int32) (x3 : Int32) (x4 : Int32) (x5 : Int32) (x6 : Int32) (x7 : Int32) (x8 : Int32) (x9 : Int32) (x10 : Int32) (x11 : Int32) (m8 : Nat) (D7 : zD), zGO K Y_LW_holds 11 831 4986 (zqY w) (j431 x2 x3 x4 x5 x6 x7 x8 x9 x10 x11 D7) (6 * 60 + 376) (6 * 360 + 2256) (m8, w) D7 431 [(0, .ref r0), (2, .int x2), (3, .int x3), (4, .int x4), (5, .int x5), (6, .int x6), (7, .int x7), (8, .int x8), (9, .int x9), (10, .int x10), (11, .int x11)] []) (z_lpA (fun (n431 : Nat) (j431 : Int32 → Int32 → Int32 → Int32 → Int32 → Int32 → Int32 → Int32 → Int32 → Int32 → zD → Option (Int32 × zD)) => ∀ (x2 : Int32) (x3 : Int32) (x4 : Int32) (x5 : Int32) (x6 : Int32) (x7 : Int32) (x8 : Int32) (x9 : Int32) (x10 : Int32) (x11 : Int32) (m8 : Nat) (D7 : zD), zGO K Y_LW_holds 11 831 4986 (zqY w) (j431 x2 x3 x4 x5 x6 x7 x8 x9 x10 x11 D7) (n431 * 60 + 376) (n431 * 360 + 2256) (m8, w) D7 431 [(0, .ref r0), (2, .int x2), (3, .int x3), (4, .int x4), (5, .int x5), (6, .int x6), (7, .int x7), (8, .int x8), (9, .int x9), (10, .int x10), (11, .int x11)] []) (fun _ _ _ _ _ _ _ _ _ _ _ _ => z_none) (fun n431 j431 h431 x2 x3 x4 x5 x6 x7 x8 x9 x10 x11 m8 D7 => ?_) 6) (fun j431 h431 => ?_)
        · refine z_jp (fun j820 : Int32 → Int32 → Int32 → Int32 → Int32 → Int32 → Int32 → Int32 → zD → Option (Int32 × zD) => ∀ (x3 : Int32) (x4 : Int32) (x5 : Int32) (x6 : Int32) (x7 : Int32) (x8 : Int32) (x9 : Int32) (x10 : Int32) (m10 : Nat) (D9 : zD), zGO K Y_LW_holds 11 831 4986 (zqY w) (j820 x3 x4 x5 x6 x7 x8 x9 x10 D9) 376 2256 (m10, w) D9 820 [(0, .ref r0), (3, .int x3), (4, .int x4), (5, .int x5), (6, .int x6), (7, .int x7), (8, .int x8), (9, .int x9), (10, .int x10)] []) (fun x3 x4 x5 x6 x7 x8 x9 x10 m10 D9 => ?_) (fun j820 h820 => ?_)
          · refine z_jp (fun j826 : Int32 → Int32 → Int32 → Int32 → Int32 → Int32 → Int32 → Int32 → Int32 → Int32 → zD → Option (Int32 × zD) => ∀ (x3 : Int32) (x4 : Int32) (x5 : Int32) (x6 : Int32) (x7 : Int32) (x8 : Int32) (x9 : Int32) (x10 : Int32) (x11 : Int32) (x12 : Int32) (m12 : Nat) (D11 : zD), zGO K Y_LW_holds 11 831 4986 (zqY w) (j826 x3 x4 x5 x6 x7 x8 x9 x10 x11 x12 D11) (62 * 6 + 4) (62 * 36 + 24) (m12, w) D11 826 [(0, .ref r0), (3, .int x3), (4, .int x4), (5, .int x5), (6, .int x6), (7, .int x7), (8, .int x8), (9, .int x9), (10, .int x10), (11, .int x11), (12, .int x12)] []) (z_lpA (fun (n826 : Nat) (j826 : Int32 → Int32 → Int32 → Int32 → Int32 → Int32 → Int32 → Int32 → Int32 → Int32 → zD → Option (Int32 × zD)) => ∀ (x3 : Int32) (x4 : Int32) (x5 : Int32) (x6 : Int32) (x7 : Int32) (x8 : Int32) (x9 : Int32) (x10 : Int32) (x11 : Int32) (x12 : Int32) (m12 : Nat) (D11 : zD), zGO K Y_LW_holds 11 831 4986 (zqY w) (j826 x3 x4 x5 x6 x7 x8 x9 x10 x11 x12 D11) (n826 * 6 + 4) (n826 * 36 + 24) (m12, w) D11 826 [(0, .ref r0), (3, .int x3), (4, .int x4), (5, .int x5), (6, .int x6), (7, .int x7), (8, .int x8), (9, .int x9), (10, .int x10), (11, .int x11), (12, .int x12)] []) (fun _ _ _ _ _ _ _ _ _ _ _ _ => z_none) (fun n826 j826 h826 x3 x4 x5 x6 x7 x8 x9 x10 x11 x12 m12 D11 => ?_) 62) (fun j826 h826 => ?_)
            · refine z_jp (fun j955 : Int32 → Int32 → Int32 → Int32 → Int32 → Int32 → zD → Option (Int32 × zD) => ∀ (x4 : Int32) (x6 : Int32) (x7 : Int32) (x8 : Int32) (x9 : Int32) (x10 : Int32) (m14 : Nat) (D13 : zD), zGO K Y_LW_holds 11 831 4986 (zqY w) (j955 x4 x6 x7 x8 x9 x10 D13) 4 24 (m14, w) D13 955 [(0, .ref r0), (4, .int x4), (6, .int x6), (7, .int x7), (8, .int x8), (9, .int x9), (10, .int x10)] []) (fun x4 x6 x7 x8 x9 x10 m14 D13 => ?_) (fun j955 h955 => ?_)
              · refine z_jp (fun j1046 : Int32 → zD → Option (Int32 × zD) => ∀ (s0 : Int32) (m16 : Nat) (D15 : zD), zGO K Y_LW_holds 11 831 4986 (zqY w) (j1046 s0 D15) 0 0 (m16, w) D15 1046 [] [.int s0]) (fun s0 m16 D15 => ?_) (fun j1046 h1046 => ?_)
                · exact z_yretZ (pc := 1046) rfl d_LW_holds_1046 rfl
                · refine z_jp (fun j1045 : zD → Option (Int32 × zD) => ∀ (m18 : Nat) (D17 : zD), zGO K Y_LW_holds 11 831 4986 (zqY w) (j1045 D17) 0 0 (m18, w) D17 1045 [] []) (fun m18 D17 => ?_) (fun j1045 h1045 => ?_)
                  · refine z_iconst (pc := 1045) d_LW_holds_1045 ki_0 ?_
                    refine z_kc (by omega) (by omega) (z_sub [] rfl (h1046 (0 : Int32) m18 D17))
                  · refine z_iload (pc := 955) d_LW_holds_955 2 rfl ?_
                    refine z_if_eq (pc := 957) (tgt := 1045) d_LW_holds_957 (by decide) ?_ ?_
                    · refine z_kc (by omega) (by omega) (z_sub [] rfl (h1045 m14 D13))
                    · refine z_iload (pc := 960) d_LW_holds_960 3 rfl ?_
                      refine z_aload_n (pc := 962) d_LW_holds_962 rfl 0 rfl ?_
                      refine z_iconst (pc := 963) d_LW_holds_963 ki_2 ?_
                      refine z_bipush (pc := 964) d_LW_holds_964 kb_6 ?_
                      refine z_iconst (pc := 966) d_LW_holds_966 ki_0 ?_
                      refine z_iconst (pc := 967) d_LW_holds_967 ki_0 ?_
                      refine z_callYA (pc := 968) (kc2 := 3) (ks2 := 18) [.ref r0, .int (2 : Int32), .int (6 : Int32), .int (0 : Int32), .int (0 : Int32)] lkS_LW_156 (c_LW_call (m14, w) D13 r0 (2 : Int32) (6 : Int32) (0 : Int32) (0 : Int32)) (by decide) (by omega) (by omega) rfl rfl (Nat.le_of_ble_eq_true rfl) d_LW_holds_968 (fun v19 D20 m21 => ?_)
                      refine z_icmp_ne (pc := 971) (tgt := 1045) d_LW_holds_971 (by decide) ?_ ?_
                      · refine z_iload (pc := 974) d_LW_holds_974 4 rfl ?_
                        refine z_aload_n (pc := 976) d_LW_holds_976 rfl 0 rfl ?_
                        refine z_iconst (pc := 977) d_LW_holds_977 ki_2 ?_
                        refine z_bipush (pc := 978) d_LW_holds_978 kb_7 ?_
                        refine z_iconst (pc := 980) d_LW_holds_980 ki_0 ?_
                        refine z_iconst (pc := 981) d_LW_holds_981 ki_0 ?_
                        refine z_callYA (pc := 982) (kc2 := 2) (ks2 := 12) [.ref r0, .int (2 : Int32), .int (7 : Int32), .int (0 : Int32), .int (0 : Int32)] lkS_LW_156 (c_LW_call (m21, w) D20 r0 (2 : Int32) (7 : Int32) (0 : Int32) (0 : Int32)) (by decide) (by omega) (by omega) rfl rfl (Nat.le_of_ble_eq_true rfl) d_LW_holds_982 (fun v22 D23 m24 => ?_)
                        refine z_icmp_ne (pc := 985) (tgt := 1045) d_LW_holds_985 (by decide) ?_ ?_
                        · refine z_iload (pc := 988) d_LW_holds_988 5 rfl ?_
                          refine z_aload_n (pc := 990) d_LW_holds_990 rfl 0 rfl ?_
                          refine z_iconst (pc := 991) d_LW_holds_991 ki_2 ?_
                          refine z_bipush (pc := 992) d_LW_holds_992 kb_8 ?_
                          refine z_iconst (pc := 994) d_LW_holds_994 ki_0 ?_
                          refine z_iconst (pc := 995) d_LW_holds_995 ki_0 ?_
                          refine z_callYA (pc := 996) (kc2 := 1) (ks2 := 6) [.ref r0, .int (2 : Int32), .int (8 : Int32), .int (0 : Int32), .int (0 : Int32)] lkS_LW_156 (c_LW_call (m24, w) D23 r0 (2 : Int32) (8 : Int32) (0 : Int32) (0 : Int32)) (by decide) (by omega) (by omega) rfl rfl (Nat.le_of_ble_eq_true rfl) d_LW_holds_996 (fun v25 D26 m27 => ?_)
                          refine z_icmp_ne (pc := 999) (tgt := 1045) d_LW_holds_999 (by decide) ?_ ?_
                          · refine z_iload (pc := 1002) d_LW_holds_1002 6 rfl ?_
                            refine z_aload_n (pc := 1004) d_LW_holds_1004 rfl 0 rfl ?_
                            refine z_iconst (pc := 1005) d_LW_holds_1005 ki_2 ?_
                            refine z_bipush (pc := 1006) d_LW_holds_1006 kb_9 ?_
                            refine z_iconst (pc := 1008) d_LW_holds_1008 ki_0 ?_
                            refine z_iconst (pc := 1009) d_LW_holds_1009 ki_0 ?_
                            refine z_callYA (pc := 1010) (kc2 := 0) (ks2 := 0) [.ref r0, .int (2 : Int32), .int (9 : Int32), .int (0 : Int32), .int (0 : Int32)] lkS_LW_156 (c_LW_call (m27, w) D26 r0 (2 : Int32) (9 : Int32) (0 : Int32) (0 : Int32)) (by decide) (by omega) (by omega) rfl rfl (Nat.le_of_ble_eq_true rfl) d_LW_holds_1010 (fun v28 D29 m30 => ?_)
                            refine z_icmp_ne (pc := 1013) (tgt := 1045) d_LW_holds_1013 (by decide) ?_ ?_
                            · refine z_jp (fun j1028 : Int32 → Int32 → zD → Option (Int32 × zD) => ∀ (x4 : Int32) (s0 : Int32) (m32 : Nat) (D31 : zD), zGO K Y_LW_holds 11 831 4986 (zqY w) (j1028 x4 s0 D31) 0 0 (m32, w) D31 1028 [(4, .int x4)] [.int s0]) (fun x4 s0 m32 D31 => ?_) (fun j1028 h1028 => ?_)
                              · refine z_jp (fun j1038 : Int32 → Int32 → zD → Option (Int32 × zD) => ∀ (s0 : Int32) (s1 : Int32) (m34 : Nat) (D33 : zD), zGO K Y_LW_holds 11 831 4986 (zqY w) (j1038 s0 s1 D33) 0 0 (m34, w) D33 1038 [] [.int s1, .int s0]) (fun s0 s1 m34 D33 => ?_) (fun j1038 h1038 => ?_)
                                · refine z_icmp_ne (pc := 1038) (tgt := 1045) d_LW_holds_1038 (by decide) ?_ ?_
                                  · refine z_iconst (pc := 1041) d_LW_holds_1041 ki_1 ?_
                                    refine z_goto (pc := 1042) (tgt := 1046) d_LW_holds_1042 (by decide) ?_
                                    refine z_kc (by omega) (by omega) (z_sub [] rfl (h1046 (1 : Int32) m34 D33))
                                  · refine z_kc (by omega) (by omega) (z_sub [] rfl (h1045 m34 D33))
                                · refine z_iload (pc := 1028) d_LW_holds_1028 0 rfl ?_
                                  refine z_if_ne (pc := 1030) (tgt := 1037) d_LW_holds_1030 (by decide) ?_ ?_
                                  · refine z_iconst (pc := 1033) d_LW_holds_1033 ki_1 ?_
                                    refine z_goto (pc := 1034) (tgt := 1038) d_LW_holds_1034 (by decide) ?_
                                    refine z_kc (by omega) (by omega) (z_sub [] rfl (h1038 s0 (1 : Int32) m32 D31))
                                  · refine z_iconst (pc := 1037) d_LW_holds_1037 ki_0 ?_
                                    refine z_kc (by omega) (by omega) (z_sub [] rfl (h1038 s0 (0 : Int32) m32 D31))
                              · refine z_aload_n (pc := 1016) d_LW_holds_1016 rfl 0 rfl ?_
                                refine z_callVi (pc := 1017) [] lkV_LW_188 rfl (c_SF_quietIn (m30, w) D29 r0 ) (by decide) rfl rfl (Nat.le_of_ble_eq_true rfl) d_LW_holds_1017 (fun v35 D36 => ?_)
                                refine z_if_ne (pc := 1020) (tgt := 1027) d_LW_holds_1020 (by decide) ?_ ?_
                                · refine z_iconst (pc := 1023) d_LW_holds_1023 ki_1 ?_
                                  refine z_goto (pc := 1024) (tgt := 1028) d_LW_holds_1024 (by decide) ?_
                                  refine z_kc (by omega) (by omega) (z_sub [1] rfl (h1028 x4 (1 : Int32) m30 D36))
                                · refine z_iconst (pc := 1027) d_LW_holds_1027 ki_0 ?_
                                  refine z_kc (by omega) (by omega) (z_sub [1] rfl (h1028 x4 (0 : Int32) m30 D36))
                            · refine z_kc (by omega) (by omega) (z_sub [] rfl (h1045 m30 D29))
                          · refine z_kc (by omega) (by omega) (z_sub [] rfl (h1045 m27 D26))
                        · refine z_kc (by omega) (by omega) (z_sub [] rfl (h1045 m24 D23))
                      · refine z_kc (by omega) (by omega) (z_sub [] rfl (h1045 m21 D20))
              · refine z_iload (pc := 826) d_LW_holds_826 10 rfl ?_
                refine z_iload (pc := 828) d_LW_holds_828 2 rfl ?_
                refine z_icmp_ge (pc := 830) (tgt := 955) d_LW_holds_830 (by decide) ?_ ?_
                · refine z_kc (by omega) (by omega) (z_sub [0, 2, 4, 5, 6, 7, 8] rfl (h955 x4 x6 x7 x8 x9 x10 m12 D11))
                · refine z_iload (pc := 833) d_LW_holds_833 4 rfl ?_
                  refine z_if_eq (pc := 835) (tgt := 955) d_LW_holds_835 (by decide) ?_ ?_
                  · refine z_kc (by omega) (by omega) (z_sub [0, 2, 4, 5, 6, 7, 8] rfl (h955 x4 x6 x7 x8 x9 x10 m12 D11))
                  · refine z_jp (fun j943 : Int32 → Int32 → Int32 → Int32 → Int32 → Int32 → Int32 → Int32 → Int32 → Int32 → zD → Option (Int32 × zD) => ∀ (x3 : Int32) (x4 : Int32) (x5 : Int32) (x7 : Int32) (x8 : Int32) (x9 : Int32) (x10 : Int32) (x12 : Int32) (x13 : Int32) (s0 : Int32) (m38 : Nat) (D37 : zD), zGO K Y_LW_holds 11 831 4986 (zqY w) (j943 x3 x4 x5 x7 x8 x9 x10 x12 x13 s0 D37) (n826 * 6 + 4) (n826 * 36 + 24) (m38, w) D37 943 [(0, .ref r0), (3, .int x3), (4, .int x4), (5, .int x5), (7, .int x7), (8, .int x8), (9, .int x9), (10, .int x10), (12, .int x12), (13, .int x13)] [.int s0]) (fun x3 x4 x5 x7 x8 x9 x10 x12 x13 s0 m38 D37 => ?_) (fun j943 h943 => ?_)
                    · refine z_istore (pc := 943) d_LW_holds_943 (by decide) (lv' := [(6, .int s0), (0, .ref r0), (3, .int x3), (4, .int x4), (5, .int x5), (7, .int x7), (8, .int x8), (9, .int x9), (10, .int x10), (12, .int x12), (13, .int x13)]) rfl ?_
                      refine z_iload (pc := 945) d_LW_holds_945 10 rfl ?_
                      refine z_istore (pc := 947) d_LW_holds_947 (by decide) (lv' := [(11, .int x13), (6, .int s0), (0, .ref r0), (3, .int x3), (4, .int x4), (5, .int x5), (7, .int x7), (8, .int x8), (9, .int x9), (10, .int x10), (12, .int x12), (13, .int x13)]) rfl ?_
                      refine z_iincL (pc := 949) d_LW_holds_949 ki_1 10 rfl (by decide) (fun v39 => z_lvc (lv2 := [(12, .int v39), (11, .int x13), (6, .int s0), (0, .ref r0), (3, .int x3), (4, .int x4), (5, .int x5), (7, .int x7), (8, .int x8), (9, .int x9), (10, .int x10), (13, .int x13)]) rfl ?_)
                      refine z_goto (pc := 952) (tgt := 826) d_LW_holds_952 (by decide) ?_
                      refine z_kc (by omega) (by omega) (z_sub [3, 4, 5, 6, 2, 7, 8, 9, 10, 1, 0] rfl (h826 x3 x4 x5 s0 x7 x8 x9 x10 x13 v39 m38 D37))
                    · refine z_jp (fun j942 : Int32 → Int32 → Int32 → Int32 → Int32 → Int32 → Int32 → Int32 → Int32 → zD → Option (Int32 × zD) => ∀ (x3 : Int32) (x4 : Int32) (x5 : Int32) (x7 : Int32) (x8 : Int32) (x9 : Int32) (x10 : Int32) (x12 : Int32) (x13 : Int32) (m41 : Nat) (D40 : zD), zGO K Y_LW_holds 11 831 4986 (zqY w) (j942 x3 x4 x5 x7 x8 x9 x10 x12 x13 D40) (n826 * 6 + 4) (n826 * 36 + 24) (m41, w) D40 942 [(0, .ref r0), (3, .int x3), (4, .int x4), (5, .int x5), (7, .int x7), (8, .int x8), (9, .int x9), (10, .int x10), (12, .int x12), (13, .int x13)] []) (fun x3 x4 x5 x7 x8 x9 x10 x12 x13 m41 D40 => ?_) (fun j942 h942 => ?_)
                      · refine z_iconst (pc := 942) d_LW_holds_942 ki_0 ?_
                        refine z_kc (by omega) (by omega) (z_sub [0, 1, 2, 3, 4, 5, 6, 7, 8, 9] rfl (h943 x3 x4 x5 x7 x8 x9 x10 x12 x13 (0 : Int32) m41 D40))
                      · refine z_aload_n (pc := 838) d_LW_holds_838 rfl 0 rfl ?_
                        refine z_bipush (pc := 839) d_LW_holds_839 kb_6 ?_
                        refine z_iload (pc := 841) d_LW_holds_841 10 rfl ?_
                        refine z_iconst (pc := 843) d_LW_holds_843 ki_3 ?_
                        refine z_iconst (pc := 844) d_LW_holds_844 ki_0 ?_
                        refine z_callYA (pc := 845) (kc2 := (n826 * 6 + 9)) (ks2 := (n826 * 36 + 54)) [.ref r0, .int (6 : Int32), .int x12, .int (3 : Int32), .int (0 : Int32)] lkS_LW_156 (c_LW_call (m12, w) D11 r0 (6 : Int32) x12 (3 : Int32) (0 : Int32)) (by decide) (by omega) (by omega) rfl rfl (Nat.le_of_ble_eq_true rfl) d_LW_holds_845 (fun v42 D43 m44 => ?_)
                        refine z_istore (pc := 848) d_LW_holds_848 (by decide) (lv' := [(13, .int v42), (0, .ref r0), (3, .int x3), (4, .int x4), (5, .int x5), (6, .int x6), (7, .int x7), (8, .int x8), (9, .int x9), (10, .int x10), (11, .int x11), (12, .int x12)]) rfl ?_
                        refine z_aload_n (pc := 850) d_LW_holds_850 rfl 1 rfl ?_
                        refine z_bipush (pc := 851) d_LW_holds_851 kb_6 ?_
                        refine z_iload (pc := 853) d_LW_holds_853 11 rfl ?_
                        refine z_iconst (pc := 855) d_LW_holds_855 ki_5 ?_
                        refine z_iconst (pc := 856) d_LW_holds_856 ki_0 ?_
                        refine z_callYA (pc := 857) (kc2 := (n826 * 6 + 8)) (ks2 := (n826 * 36 + 48)) [.ref r0, .int (6 : Int32), .int x12, .int (5 : Int32), .int (0 : Int32)] lkS_LW_156 (c_LW_call (m44, w) D43 r0 (6 : Int32) x12 (5 : Int32) (0 : Int32)) (by decide) (by omega) (by omega) rfl rfl (Nat.le_of_ble_eq_true rfl) d_LW_holds_857 (fun v45 D46 m47 => ?_)
                        refine z_istore (pc := 860) d_LW_holds_860 (by decide) (lv' := [(14, .int v45), (13, .int v42), (0, .ref r0), (3, .int x3), (4, .int x4), (5, .int x5), (6, .int x6), (7, .int x7), (8, .int x8), (9, .int x9), (10, .int x10), (11, .int x11), (12, .int x12)]) rfl ?_
                        refine z_iload (pc := 862) d_LW_holds_862 1 rfl ?_
                        refine z_iload (pc := 864) d_LW_holds_864 11 rfl ?_
                        refine z_icmp_lt (pc := 866) (tgt := 942) d_LW_holds_866 (by decide) ?_ ?_
                        · refine z_kc (by omega) (by omega) (z_sub [2, 3, 4, 5, 7, 8, 9, 10, 12, 1] rfl (h942 x3 x4 x5 x7 x8 x9 x10 x12 v42 m47 D46))
                        · refine z_iload (pc := 869) d_LW_holds_869 1 rfl ?_
                          refine z_if_le (pc := 871) (tgt := 942) d_LW_holds_871 (by decide) ?_ ?_
                          · refine z_kc (by omega) (by omega) (z_sub [2, 3, 4, 5, 7, 8, 9, 10, 12, 1] rfl (h942 x3 x4 x5 x7 x8 x9 x10 x12 v42 m47 D46))
                          · refine z_iload (pc := 874) d_LW_holds_874 1 rfl ?_
                            refine z_iload (pc := 876) d_LW_holds_876 5 rfl ?_
                            refine z_icmp_gt (pc := 878) (tgt := 942) d_LW_holds_878 (by decide) ?_ ?_
                            · refine z_kc (by omega) (by omega) (z_sub [2, 3, 4, 5, 7, 8, 9, 10, 12, 1] rfl (h942 x3 x4 x5 x7 x8 x9 x10 x12 v42 m47 D46))
                            · refine z_iload (pc := 881) d_LW_holds_881 1 rfl ?_
                              refine z_aload_n (pc := 883) d_LW_holds_883 rfl 2 rfl ?_
                              refine z_iconst (pc := 884) d_LW_holds_884 ki_3 ?_
                              refine z_aload_n (pc := 885) d_LW_holds_885 rfl 2 rfl ?_
                              refine z_bipush (pc := 886) d_LW_holds_886 kb_6 ?_
                              refine z_iload (pc := 888) d_LW_holds_888 12 rfl ?_
                              refine z_iconst (pc := 890) d_LW_holds_890 ki_0 ?_
                              refine z_iconst (pc := 891) d_LW_holds_891 ki_0 ?_
                              refine z_callYA (pc := 892) (kc2 := (n826 * 6 + 7)) (ks2 := (n826 * 36 + 42)) [.ref r0, .int (6 : Int32), .int x12, .int (0 : Int32), .int (0 : Int32)] lkS_LW_156 (c_LW_call (m47, w) D46 r0 (6 : Int32) x12 (0 : Int32) (0 : Int32)) (by decide) (by omega) (by omega) rfl rfl (Nat.le_of_ble_eq_true rfl) d_LW_holds_892 (fun v48 D49 m50 => ?_)
                              refine z_iconst (pc := 895) d_LW_holds_895 ki_4 ?_
                              refine z_iconst (pc := 896) d_LW_holds_896 ki_0 ?_
                              refine z_callYA (pc := 897) (kc2 := (n826 * 6 + 6)) (ks2 := (n826 * 36 + 36)) [.ref r0, .int (3 : Int32), .int v48, .int (4 : Int32), .int (0 : Int32)] lkS_LW_156 (c_LW_call (m50, w) D49 r0 (3 : Int32) v48 (4 : Int32) (0 : Int32)) (by decide) (by omega) (by omega) rfl rfl (Nat.le_of_ble_eq_true rfl) d_LW_holds_897 (fun v51 D52 m53 => ?_)
                              refine z_irem (pc := 900) d_LW_holds_900 ?_
                              refine z_if_ne (pc := 901) (tgt := 942) d_LW_holds_901 (by decide) ?_ ?_
                              · refine z_iload (pc := 904) d_LW_holds_904 0 rfl ?_
                                refine z_if_lt (pc := 906) (tgt := 942) d_LW_holds_906 (by decide) ?_ ?_
                                · refine z_kc (by omega) (by omega) (z_sub [2, 3, 4, 5, 7, 8, 9, 10, 12, 1] rfl (h942 x3 x4 x5 x7 x8 x9 x10 x12 v42 m53 D52))
                                · refine z_iload (pc := 909) d_LW_holds_909 0 rfl ?_
                                  refine z_iconst (pc := 911) d_LW_holds_911 ki_1 ?_
                                  refine z_iload_n (pc := 912) d_LW_holds_912 rfl 3 rfl ?_
                                  refine z_ishl (pc := 913) d_LW_holds_913 ?_
                                  refine z_icmp_ge (pc := 914) (tgt := 942) d_LW_holds_914 (by decide) ?_ ?_
                                  · refine z_kc (by omega) (by omega) (z_sub [2, 3, 4, 5, 7, 8, 9, 10, 12, 1] rfl (h942 x3 x4 x5 x7 x8 x9 x10 x12 v42 m53 D52))
                                  · refine z_aload_n (pc := 917) d_LW_holds_917 rfl 2 rfl ?_
                                    refine z_bipush (pc := 918) d_LW_holds_918 kb_6 ?_
                                    refine z_iload (pc := 920) d_LW_holds_920 12 rfl ?_
                                    refine z_iconst (pc := 922) d_LW_holds_922 ki_4 ?_
                                    refine z_iconst (pc := 923) d_LW_holds_923 ki_0 ?_
                                    refine z_callYA (pc := 924) (kc2 := (n826 * 6 + 5)) (ks2 := (n826 * 36 + 30)) [.ref r0, .int (6 : Int32), .int x12, .int (4 : Int32), .int (0 : Int32)] lkS_LW_156 (c_LW_call (m53, w) D52 r0 (6 : Int32) x12 (4 : Int32) (0 : Int32)) (by decide) (by omega) (by omega) rfl rfl (Nat.le_of_ble_eq_true rfl) d_LW_holds_924 (fun v54 D55 m56 => ?_)
                                    refine z_aload_n (pc := 927) d_LW_holds_927 rfl 2 rfl ?_
                                    refine z_iconst (pc := 928) d_LW_holds_928 ki_2 ?_
                                    refine z_iconst (pc := 929) d_LW_holds_929 ki_2 ?_
                                    refine z_iconst (pc := 930) d_LW_holds_930 ki_0 ?_
                                    refine z_iconst (pc := 931) d_LW_holds_931 ki_0 ?_
                                    refine z_callYA (pc := 932) (kc2 := (n826 * 6 + 4)) (ks2 := (n826 * 36 + 24)) [.ref r0, .int (2 : Int32), .int (2 : Int32), .int (0 : Int32), .int (0 : Int32)] lkS_LW_156 (c_LW_call (m56, w) D55 r0 (2 : Int32) (2 : Int32) (0 : Int32) (0 : Int32)) (by decide) (by omega) (by omega) rfl rfl (Nat.le_of_ble_eq_true rfl) d_LW_holds_932 (fun v57 D58 m59 => ?_)
                                    refine z_icmp_ge (pc := 935) (tgt := 942) d_LW_holds_935 (by decide) ?_ ?_
                                    · refine z_kc (by omega) (by omega) (z_sub [2, 3, 4, 5, 7, 8, 9, 10, 12, 1] rfl (h942 x3 x4 x5 x7 x8 x9 x10 x12 v42 m59 D58))
                                    · refine z_iconst (pc := 938) d_LW_holds_938 ki_1 ?_
                                      refine z_goto (pc := 939) (tgt := 943) d_LW_holds_939 (by decide) ?_
                                      refine z_kc (by omega) (by omega) (z_sub [2, 3, 4, 5, 7, 8, 9, 10, 12, 1] rfl (h943 x3 x4 x5 x7 x8 x9 x10 x12 v42 (1 : Int32) m59 D58))
                              · refine z_kc (by omega) (by omega) (z_sub [2, 3, 4, 5, 7, 8, 9, 10, 12, 1] rfl (h942 x3 x4 x5 x7 x8 x9 x10 x12 v42 m53 D52))
            · refine z_iconst (pc := 820) d_LW_holds_820 ki_0 ?_
              refine z_istore (pc := 821) d_LW_holds_821 (by decide) (lv' := [(11, .int (0 : Int32)), (0, .ref r0), (3, .int x3), (4, .int x4), (5, .int x5), (6, .int x6), (7, .int x7), (8, .int x8), (9, .int x9), (10, .int x10)]) rfl ?_
              refine z_iconst (pc := 823) d_LW_holds_823 ki_0 ?_
              refine z_istore (pc := 824) d_LW_holds_824 (by decide) (lv' := [(12, .int (0 : Int32)), (11, .int (0 : Int32)), (0, .ref r0), (3, .int x3), (4, .int x4), (5, .int x5), (6, .int x6), (7, .int x7), (8, .int x8), (9, .int x9), (10, .int x10)]) rfl ?_
              refine z_kc (by omega) (by omega) (z_sub [2, 3, 4, 5, 6, 7, 8, 9, 10, 1, 0] rfl (h826 x3 x4 x5 x6 x7 x8 x9 x10 (0 : Int32) (0 : Int32) m10 D9))
          · refine z_iload (pc := 431) d_LW_holds_431 10 rfl ?_
            refine z_iload_n (pc := 433) d_LW_holds_433 rfl 2 rfl ?_
            refine z_icmp_ge (pc := 434) (tgt := 820) d_LW_holds_434 (by decide) ?_ ?_
            · refine z_kc (by omega) (by omega) (z_sub [0, 2, 3, 4, 5, 6, 7, 8, 9] rfl (h820 x3 x4 x5 x6 x7 x8 x9 x10 m8 D7))
            · refine z_iload (pc := 437) d_LW_holds_437 5 rfl ?_
              refine z_if_eq (pc := 439) (tgt := 820) d_LW_holds_439 (by decide) ?_ ?_
              · refine z_kc (by omega) (by omega) (z_sub [0, 2, 3, 4, 5, 6, 7, 8, 9] rfl (h820 x3 x4 x5 x6 x7 x8 x9 x10 m8 D7))
              · refine z_jp (fun j557 : Int32 → Int32 → Int32 → Int32 → Int32 → Int32 → Int32 → Int32 → Int32 → Int32 → zD → Option (Int32 × zD) => ∀ (x2 : Int32) (x3 : Int32) (x4 : Int32) (x5 : Int32) (x7 : Int32) (x8 : Int32) (x9 : Int32) (x10 : Int32) (x11 : Int32) (s0 : Int32) (m61 : Nat) (D60 : zD), zGO K Y_LW_holds 11 831 4986 (zqY w) (j557 x2 x3 x4 x5 x7 x8 x9 x10 x11 s0 D60) (n431 * 60 + 430) (n431 * 360 + 2580) (m61, w) D60 557 [(0, .ref r0), (2, .int x2), (3, .int x3), (4, .int x4), (5, .int x5), (7, .int x7), (8, .int x8), (9, .int x9), (10, .int x10), (11, .int x11)] [.int s0]) (fun x2 x3 x4 x5 x7 x8 x9 x10 x11 s0 m61 D60 => ?_) (fun j557 h557 => ?_)
                · refine z_jp (fun j562 : Int32 → Int32 → Int32 → Int32 → Int32 → Int32 → Int32 → Int32 → Int32 → Int32 → Int32 → zD → Option (Int32 × zD) => ∀ (x2 : Int32) (x3 : Int32) (x4 : Int32) (x5 : Int32) (x6 : Int32) (x7 : Int32) (x8 : Int32) (x9 : Int32) (x10 : Int32) (x11 : Int32) (x12 : Int32) (m63 : Nat) (D62 : zD), zGO K Y_LW_holds 11 831 4986 (zqY w) (j562 x2 x3 x4 x5 x6 x7 x8 x9 x10 x11 x12 D62) (6 * 9 + (n431 * 60 + 376)) (6 * 54 + (n431 * 360 + 2256)) (m63, w) D62 562 [(0, .ref r0), (2, .int x2), (3, .int x3), (4, .int x4), (5, .int x5), (6, .int x6), (7, .int x7), (8, .int x8), (9, .int x9), (10, .int x10), (11, .int x11), (12, .int x12)] []) (z_lpA (fun (n562 : Nat) (j562 : Int32 → Int32 → Int32 → Int32 → Int32 → Int32 → Int32 → Int32 → Int32 → Int32 → Int32 → zD → Option (Int32 × zD)) => ∀ (x2 : Int32) (x3 : Int32) (x4 : Int32) (x5 : Int32) (x6 : Int32) (x7 : Int32) (x8 : Int32) (x9 : Int32) (x10 : Int32) (x11 : Int32) (x12 : Int32) (m63 : Nat) (D62 : zD), zGO K Y_LW_holds 11 831 4986 (zqY w) (j562 x2 x3 x4 x5 x6 x7 x8 x9 x10 x11 x12 D62) (n562 * 9 + (n431 * 60 + 376)) (n562 * 54 + (n431 * 360 + 2256)) (m63, w) D62 562 [(0, .ref r0), (2, .int x2), (3, .int x3), (4, .int x4), (5, .int x5), (6, .int x6), (7, .int x7), (8, .int x8), (9, .int x9), (10, .int x10), (11, .int x11), (12, .int x12)] []) (fun _ _ _ _ _ _ _ _ _ _ _ _ _ => z_none) (fun n562 j562 h562 x2 x3 x4 x5 x6 x7 x8 x9 x10 x11 x12 m63 D62 => ?_) 6) (fun j562 h562 => ?_)
                  · refine z_jp (fun j814 : Int32 → Int32 → Int32 → Int32 → Int32 → Int32 → Int32 → Int32 → Int32 → Int32 → zD → Option (Int32 × zD) => ∀ (x2 : Int32) (x3 : Int32) (x4 : Int32) (x5 : Int32) (x6 : Int32) (x7 : Int32) (x8 : Int32) (x9 : Int32) (x10 : Int32) (x11 : Int32) (m65 : Nat) (D64 : zD), zGO K Y_LW_holds 11 831 4986 (zqY w) (j814 x2 x3 x4 x5 x6 x7 x8 x9 x10 x11 D64) (n431 * 60 + 376) (n431 * 360 + 2256) (m65, w) D64 814 [(0, .ref r0), (2, .int x2), (3, .int x3), (4, .int x4), (5, .int x5), (6, .int x6), (7, .int x7), (8, .int x8), (9, .int x9), (10, .int x10), (11, .int x11)] []) (fun x2 x3 x4 x5 x6 x7 x8 x9 x10 x11 m65 D64 => ?_) (fun j814 h814 => ?_)
                    · refine z_iincL (pc := 814) d_LW_holds_814 ki_1 10 rfl (by decide) (fun v66 => z_lvc (lv2 := [(11, .int v66), (0, .ref r0), (2, .int x2), (3, .int x3), (4, .int x4), (5, .int x5), (6, .int x6), (7, .int x7), (8, .int x8), (9, .int x9), (10, .int x10)]) rfl ?_)
                      refine z_goto (pc := 817) (tgt := 431) d_LW_holds_817 (by decide) ?_
                      refine z_kc (by omega) (by omega) (z_sub [1, 2, 3, 4, 5, 6, 7, 8, 9, 10, 0] rfl (h431 x2 x3 x4 x5 x6 x7 x8 x9 x10 v66 m65 D64))
                    · refine z_iload (pc := 562) d_LW_holds_562 11 rfl ?_
                      refine z_iload_n (pc := 564) d_LW_holds_564 rfl 1 rfl ?_
                      refine z_icmp_ge (pc := 565) (tgt := 814) d_LW_holds_565 (by decide) ?_ ?_
                      · refine z_kc (by omega) (by omega) (z_sub [0, 1, 2, 3, 4, 5, 6, 7, 8, 9, 10] rfl (h814 x2 x3 x4 x5 x6 x7 x8 x9 x10 x11 m63 D62))
                      · refine z_iload (pc := 568) d_LW_holds_568 5 rfl ?_
                        refine z_if_eq (pc := 570) (tgt := 814) d_LW_holds_570 (by decide) ?_ ?_
                        · refine z_kc (by omega) (by omega) (z_sub [0, 1, 2, 3, 4, 5, 6, 7, 8, 9, 10] rfl (h814 x2 x3 x4 x5 x6 x7 x8 x9 x10 x11 m63 D62))
                        · refine z_jp (fun j686 : Int32 → Int32 → Int32 → Int32 → Int32 → Int32 → Int32 → Int32 → Int32 → Int32 → Int32 → Int32 → Int32 → Int32 → Int32 → Int32 → zD → Option (Int32 × zD) => ∀ (x2 : Int32) (x3 : Int32) (x4 : Int32) (x5 : Int32) (x7 : Int32) (x8 : Int32) (x9 : Int32) (x10 : Int32) (x11 : Int32) (x12 : Int32) (x13 : Int32) (x14 : Int32) (x15 : Int32) (x16 : Int32) (s0 : Int32) (s1 : Int32) (m68 : Nat) (D67 : zD), zGO K Y_LW_holds 11 831 4986 (zqY w) (j686 x2 x3 x4 x5 x7 x8 x9 x10 x11 x12 x13 x14 x15 x16 s0 s1 D67) (n431 * 60 + n562 * 9 + 378) (n431 * 360 + n562 * 54 + 2268) (m68, w) D67 686 [(0, .ref r0), (2, .int x2), (3, .int x3), (4, .int x4), (5, .int x5), (7, .int x7), (8, .int x8), (9, .int x9), (10, .int x10), (11, .int x11), (12, .int x12), (13, .int x13), (14, .int x14), (15, .int x15), (16, .int x16)] [.int s1, .int s0]) (fun x2 x3 x4 x5 x7 x8 x9 x10 x11 x12 x13 x14 x15 x16 s0 s1 m68 D67 => ?_) (fun j686 h686 => ?_)
                          · refine z_jp (fun j806 : Int32 → Int32 → Int32 → Int32 → Int32 → Int32 → Int32 → Int32 → Int32 → Int32 → Int32 → zD → Option (Int32 × zD) => ∀ (x2 : Int32) (x3 : Int32) (x4 : Int32) (x5 : Int32) (x7 : Int32) (x8 : Int32) (x9 : Int32) (x10 : Int32) (x11 : Int32) (x12 : Int32) (s0 : Int32) (m70 : Nat) (D69 : zD), zGO K Y_LW_holds 11 831 4986 (zqY w) (j806 x2 x3 x4 x5 x7 x8 x9 x10 x11 x12 s0 D69) (n431 * 60 + n562 * 9 + 376) (n431 * 360 + n562 * 54 + 2256) (m70, w) D69 806 [(0, .ref r0), (2, .int x2), (3, .int x3), (4, .int x4), (5, .int x5), (7, .int x7), (8, .int x8), (9, .int x9), (10, .int x10), (11, .int x11), (12, .int x12)] [.int s0]) (fun x2 x3 x4 x5 x7 x8 x9 x10 x11 x12 s0 m70 D69 => ?_) (fun j806 h806 => ?_)
                            · refine z_istore (pc := 806) d_LW_holds_806 (by decide) (lv' := [(6, .int s0), (0, .ref r0), (2, .int x2), (3, .int x3), (4, .int x4), (5, .int x5), (7, .int x7), (8, .int x8), (9, .int x9), (10, .int x10), (11, .int x11), (12, .int x12)]) rfl ?_
                              refine z_iincL (pc := 808) d_LW_holds_808 ki_1 11 rfl (by decide) (fun v71 => z_lvc (lv2 := [(12, .int v71), (6, .int s0), (0, .ref r0), (2, .int x2), (3, .int x3), (4, .int x4), (5, .int x5), (7, .int x7), (8, .int x8), (9, .int x9), (10, .int x10), (11, .int x11)]) rfl ?_)
                              refine z_goto (pc := 811) (tgt := 562) d_LW_holds_811 (by decide) ?_
                              refine z_kc (by omega) (by omega) (z_sub [2, 3, 4, 5, 6, 1, 7, 8, 9, 10, 11, 0] rfl (h562 x2 x3 x4 x5 s0 x7 x8 x9 x10 x11 v71 m70 D69))
                            · refine z_jp (fun j805 : Int32 → Int32 → Int32 → Int32 → Int32 → Int32 → Int32 → Int32 → Int32 → Int32 → zD → Option (Int32 × zD) => ∀ (x2 : Int32) (x3 : Int32) (x4 : Int32) (x5 : Int32) (x7 : Int32) (x8 : Int32) (x9 : Int32) (x10 : Int32) (x11 : Int32) (x12 : Int32) (m73 : Nat) (D72 : zD), zGO K Y_LW_holds 11 831 4986 (zqY w) (j805 x2 x3 x4 x5 x7 x8 x9 x10 x11 x12 D72) (n431 * 60 + n562 * 9 + 376) (n431 * 360 + n562 * 54 + 2256) (m73, w) D72 805 [(0, .ref r0), (2, .int x2), (3, .int x3), (4, .int x4), (5, .int x5), (7, .int x7), (8, .int x8), (9, .int x9), (10, .int x10), (11, .int x11), (12, .int x12)] []) (fun x2 x3 x4 x5 x7 x8 x9 x10 x11 x12 m73 D72 => ?_) (fun j805 h805 => ?_)
                              · refine z_iconst (pc := 805) d_LW_holds_805 ki_0 ?_
                                refine z_kc (by omega) (by omega) (z_sub [0, 1, 2, 3, 4, 5, 6, 7, 8, 9, 10] rfl (h806 x2 x3 x4 x5 x7 x8 x9 x10 x11 x12 (0 : Int32) m73 D72))
                              · refine z_icmp_gt (pc := 686) (tgt := 805) d_LW_holds_686 (by decide) ?_ ?_
                                · refine z_kc (by omega) (by omega) (z_sub [0, 1, 2, 3, 4, 5, 6, 7, 8, 9, 10] rfl (h805 x2 x3 x4 x5 x7 x8 x9 x10 x11 x12 m68 D67))
                                · refine z_jp (fun j709 : Int32 → Int32 → Int32 → Int32 → Int32 → Int32 → Int32 → Int32 → Int32 → Int32 → Int32 → Int32 → Int32 → Int32 → Int32 → zD → Option (Int32 × zD) => ∀ (x2 : Int32) (x3 : Int32) (x4 : Int32) (x5 : Int32) (x7 : Int32) (x8 : Int32) (x9 : Int32) (x10 : Int32) (x11 : Int32) (x12 : Int32) (x13 : Int32) (x14 : Int32) (x15 : Int32) (x16 : Int32) (s0 : Int32) (m75 : Nat) (D74 : zD), zGO K Y_LW_holds 11 831 4986 (zqY w) (j709 x2 x3 x4 x5 x7 x8 x9 x10 x11 x12 x13 x14 x15 x16 s0 D74) (n431 * 60 + n562 * 9 + 377) (n431 * 360 + n562 * 54 + 2262) (m75, w) D74 709 [(0, .ref r0), (2, .int x2), (3, .int x3), (4, .int x4), (5, .int x5), (7, .int x7), (8, .int x8), (9, .int x9), (10, .int x10), (11, .int x11), (12, .int x12), (13, .int x13), (14, .int x14), (15, .int x15), (16, .int x16)] [.int s0]) (fun x2 x3 x4 x5 x7 x8 x9 x10 x11 x12 x13 x14 x15 x16 s0 m75 D74 => ?_) (fun j709 h709 => ?_)
                                  · refine z_jp (fun j719 : Int32 → Int32 → Int32 → Int32 → Int32 → Int32 → Int32 → Int32 → Int32 → Int32 → Int32 → Int32 → Int32 → Int32 → Int32 → Int32 → zD → Option (Int32 × zD) => ∀ (x2 : Int32) (x3 : Int32) (x4 : Int32) (x5 : Int32) (x7 : Int32) (x8 : Int32) (x9 : Int32) (x10 : Int32) (x11 : Int32) (x12 : Int32) (x13 : Int32) (x14 : Int32) (x15 : Int32) (x16 : Int32) (s0 : Int32) (s1 : Int32) (m77 : Nat) (D76 : zD), zGO K Y_LW_holds 11 831 4986 (zqY w) (j719 x2 x3 x4 x5 x7 x8 x9 x10 x11 x12 x13 x14 x15 x16 s0 s1 D76) (n431 * 60 + n562 * 9 + 377) (n431 * 360 + n562 * 54 + 2262) (m77, w) D76 719 [(0, .ref r0), (2, .int x2), (3, .int x3), (4, .int x4), (5, .int x5), (7, .int x7), (8, .int x8), (9, .int x9), (10, .int x10), (11, .int x11), (12, .int x12), (13, .int x13), (14, .int x14), (15, .int x15), (16, .int x16)] [.int s1, .int s0]) (fun x2 x3 x4 x5 x7 x8 x9 x10 x11 x12 x13 x14 x15 x16 s0 s1 m77 D76 => ?_) (fun j719 h719 => ?_)
                                    · refine z_icmp_ne (pc := 719) (tgt := 805) d_LW_holds_719 (by decide) ?_ ?_
                                      · refine z_aload_n (pc := 722) d_LW_holds_722 rfl 0 rfl ?_
                                        refine z_bipush (pc := 723) d_LW_holds_723 kb_7 ?_
                                        refine z_iload (pc := 725) d_LW_holds_725 9 rfl ?_
                                        refine z_iload (pc := 727) d_LW_holds_727 10 rfl ?_
                                        refine z_iconst (pc := 729) d_LW_holds_729 ki_3 ?_
                                        refine z_callYA (pc := 730) (kc2 := (n431 * 60 + n562 * 9 + 376)) (ks2 := (n431 * 360 + n562 * 54 + 2256)) [.ref r0, .int (7 : Int32), .int x11, .int x12, .int (3 : Int32)] lkS_LW_156 (c_LW_call (m77, w) D76 r0 (7 : Int32) x11 x12 (3 : Int32)) (by decide) (by omega) (by omega) rfl rfl (Nat.le_of_ble_eq_true rfl) d_LW_holds_730 (fun v78 D79 m80 => ?_)
                                        refine z_iload (pc := 733) d_LW_holds_733 4 rfl ?_
                                        refine z_icmp_gt (pc := 735) (tgt := 805) d_LW_holds_735 (by decide) ?_ ?_
                                        · refine z_kc (by omega) (by omega) (z_sub [0, 1, 2, 3, 4, 5, 6, 7, 8, 9, 10] rfl (h805 x2 x3 x4 x5 x7 x8 x9 x10 x11 x12 m80 D79))
                                        · refine z_jp (fun j749 : Int32 → Int32 → Int32 → Int32 → Int32 → Int32 → Int32 → Int32 → Int32 → Int32 → Int32 → Int32 → Int32 → Int32 → Int32 → zD → Option (Int32 × zD) => ∀ (x2 : Int32) (x3 : Int32) (x4 : Int32) (x5 : Int32) (x7 : Int32) (x8 : Int32) (x9 : Int32) (x10 : Int32) (x11 : Int32) (x12 : Int32) (x13 : Int32) (x14 : Int32) (x15 : Int32) (x16 : Int32) (s0 : Int32) (m82 : Nat) (D81 : zD), zGO K Y_LW_holds 11 831 4986 (zqY w) (j749 x2 x3 x4 x5 x7 x8 x9 x10 x11 x12 x13 x14 x15 x16 s0 D81) (n431 * 60 + n562 * 9 + 376) (n431 * 360 + n562 * 54 + 2256) (m82, w) D81 749 [(0, .ref r0), (2, .int x2), (3, .int x3), (4, .int x4), (5, .int x5), (7, .int x7), (8, .int x8), (9, .int x9), (10, .int x10), (11, .int x11), (12, .int x12), (13, .int x13), (14, .int x14), (15, .int x15), (16, .int x16)] [.int s0]) (fun x2 x3 x4 x5 x7 x8 x9 x10 x11 x12 x13 x14 x15 x16 s0 m82 D81 => ?_) (fun j749 h749 => ?_)
                                          · refine z_jp (fun j760 : Int32 → Int32 → Int32 → Int32 → Int32 → Int32 → Int32 → Int32 → Int32 → Int32 → Int32 → Int32 → Int32 → Int32 → Int32 → zD → Option (Int32 × zD) => ∀ (x2 : Int32) (x3 : Int32) (x4 : Int32) (x5 : Int32) (x7 : Int32) (x8 : Int32) (x9 : Int32) (x10 : Int32) (x11 : Int32) (x12 : Int32) (x14 : Int32) (x15 : Int32) (x16 : Int32) (s0 : Int32) (s1 : Int32) (m84 : Nat) (D83 : zD), zGO K Y_LW_holds 11 831 4986 (zqY w) (j760 x2 x3 x4 x5 x7 x8 x9 x10 x11 x12 x14 x15 x16 s0 s1 D83) (n431 * 60 + n562 * 9 + 376) (n431 * 360 + n562 * 54 + 2256) (m84, w) D83 760 [(0, .ref r0), (2, .int x2), (3, .int x3), (4, .int x4), (5, .int x5), (7, .int x7), (8, .int x8), (9, .int x9), (10, .int x10), (11, .int x11), (12, .int x12), (14, .int x14), (15, .int x15), (16, .int x16)] [.int s1, .int s0]) (fun x2 x3 x4 x5 x7 x8 x9 x10 x11 x12 x14 x15 x16 s0 s1 m84 D83 => ?_) (fun j760 h760 => ?_)
                                            · refine z_icmp_ne (pc := 760) (tgt := 805) d_LW_holds_760 (by decide) ?_ ?_
                                              · refine z_jp (fun j798 : Int32 → Int32 → Int32 → Int32 → Int32 → Int32 → Int32 → Int32 → Int32 → Int32 → Int32 → Int32 → zD → Option (Int32 × zD) => ∀ (x2 : Int32) (x3 : Int32) (x4 : Int32) (x5 : Int32) (x7 : Int32) (x8 : Int32) (x9 : Int32) (x10 : Int32) (x11 : Int32) (x12 : Int32) (s0 : Int32) (s1 : Int32) (m86 : Nat) (D85 : zD), zGO K Y_LW_holds 11 831 4986 (zqY w) (j798 x2 x3 x4 x5 x7 x8 x9 x10 x11 x12 s0 s1 D85) (n431 * 60 + n562 * 9 + 376) (n431 * 360 + n562 * 54 + 2256) (m86, w) D85 798 [(0, .ref r0), (2, .int x2), (3, .int x3), (4, .int x4), (5, .int x5), (7, .int x7), (8, .int x8), (9, .int x9), (10, .int x10), (11, .int x11), (12, .int x12)] [.int s1, .int s0]) (fun x2 x3 x4 x5 x7 x8 x9 x10 x11 x12 s0 s1 m86 D85 => ?_) (fun j798 h798 => ?_)
                                                · refine z_icmp_ne (pc := 798) (tgt := 805) d_LW_holds_798 (by decide) ?_ ?_
                                                  · refine z_iconst (pc := 801) d_LW_holds_801 ki_1 ?_
                                                    refine z_goto (pc := 802) (tgt := 806) d_LW_holds_802 (by decide) ?_
                                                    refine z_kc (by omega) (by omega) (z_sub [0, 1, 2, 3, 4, 5, 6, 7, 8, 9, 10] rfl (h806 x2 x3 x4 x5 x7 x8 x9 x10 x11 x12 (1 : Int32) m86 D85))
                                                  · refine z_kc (by omega) (by omega) (z_sub [0, 1, 2, 3, 4, 5, 6, 7, 8, 9, 10] rfl (h805 x2 x3 x4 x5 x7 x8 x9 x10 x11 x12 m86 D85))
                                                · refine z_iload (pc := 763) d_LW_holds_763 12 rfl ?_
                                                  refine z_iload (pc := 765) d_LW_holds_765 11 rfl ?_
                                                  refine z_iconst (pc := 767) d_LW_holds_767 ki_m1 ?_
                                                  refine z_icmp_ne (pc := 768) (tgt := 775) d_LW_holds_768 (by decide) ?_ ?_
                                                  · refine z_iconst (pc := 771) d_LW_holds_771 ki_m1 ?_
                                                    refine z_goto (pc := 772) (tgt := 798) d_LW_holds_772 (by decide) ?_
                                                    refine z_kc (by omega) (by omega) (z_sub [0, 1, 2, 3, 4, 5, 6, 7, 8, 9, 10] rfl (h798 x2 x3 x4 x5 x7 x8 x9 x10 x11 x12 x15 (-1 : Int32) m84 D83))
                                                  · refine z_iload (pc := 775) d_LW_holds_775 11 rfl ?_
                                                    refine z_iload (pc := 777) d_LW_holds_777 13 rfl ?_
                                                    refine z_icmp_ge (pc := 779) (tgt := 786) d_LW_holds_779 (by decide) ?_ ?_
                                                    · refine z_iload (pc := 786) d_LW_holds_786 11 rfl ?_
                                                      refine z_iload (pc := 788) d_LW_holds_788 13 rfl ?_
                                                      refine z_icmp_le (pc := 790) (tgt := 797) d_LW_holds_790 (by decide) ?_ ?_
                                                      · refine z_iconst (pc := 797) d_LW_holds_797 ki_0 ?_
                                                        refine z_kc (by omega) (by omega) (z_sub [0, 1, 2, 3, 4, 5, 6, 7, 8, 9, 10] rfl (h798 x2 x3 x4 x5 x7 x8 x9 x10 x11 x12 x15 (0 : Int32) m84 D83))
                                                      · refine z_iconst (pc := 793) d_LW_holds_793 ki_2 ?_
                                                        refine z_goto (pc := 794) (tgt := 798) d_LW_holds_794 (by decide) ?_
                                                        refine z_kc (by omega) (by omega) (z_sub [0, 1, 2, 3, 4, 5, 6, 7, 8, 9, 10] rfl (h798 x2 x3 x4 x5 x7 x8 x9 x10 x11 x12 x15 (2 : Int32) m84 D83))
                                                    · refine z_iconst (pc := 782) d_LW_holds_782 ki_1 ?_
                                                      refine z_goto (pc := 783) (tgt := 798) d_LW_holds_783 (by decide) ?_
                                                      refine z_kc (by omega) (by omega) (z_sub [0, 1, 2, 3, 4, 5, 6, 7, 8, 9, 10] rfl (h798 x2 x3 x4 x5 x7 x8 x9 x10 x11 x12 x15 (1 : Int32) m84 D83))
                                              · refine z_kc (by omega) (by omega) (z_sub [0, 1, 2, 3, 4, 5, 6, 7, 8, 9, 10] rfl (h805 x2 x3 x4 x5 x7 x8 x9 x10 x11 x12 m84 D83))
                                            · refine z_iload (pc := 749) d_LW_holds_749 11 rfl ?_
                                              refine z_iconst (pc := 751) d_LW_holds_751 ki_2 ?_
                                              refine z_icmp_ge (pc := 752) (tgt := 759) d_LW_holds_752 (by decide) ?_ ?_
                                              · refine z_iconst (pc := 759) d_LW_holds_759 ki_0 ?_
                                                refine z_kc (by omega) (by omega) (z_sub [0, 1, 2, 3, 4, 5, 6, 7, 8, 9, 10, 12, 13, 14] rfl (h760 x2 x3 x4 x5 x7 x8 x9 x10 x11 x12 x14 x15 x16 s0 (0 : Int32) m82 D81))
                                              · refine z_iconst (pc := 755) d_LW_holds_755 ki_1 ?_
                                                refine z_goto (pc := 756) (tgt := 760) d_LW_holds_756 (by decide) ?_
                                                refine z_kc (by omega) (by omega) (z_sub [0, 1, 2, 3, 4, 5, 6, 7, 8, 9, 10, 12, 13, 14] rfl (h760 x2 x3 x4 x5 x7 x8 x9 x10 x11 x12 x14 x15 x16 s0 (1 : Int32) m82 D81))
                                          · refine z_iload (pc := 738) d_LW_holds_738 12 rfl ?_
                                            refine z_iconst (pc := 740) d_LW_holds_740 ki_m1 ?_
                                            refine z_icmp_ne (pc := 741) (tgt := 748) d_LW_holds_741 (by decide) ?_ ?_
                                            · refine z_iconst (pc := 744) d_LW_holds_744 ki_1 ?_
                                              refine z_goto (pc := 745) (tgt := 749) d_LW_holds_745 (by decide) ?_
                                              refine z_kc (by omega) (by omega) (z_sub [0, 1, 2, 3, 4, 5, 6, 7, 8, 9, 10, 11, 12, 13, 14] rfl (h749 x2 x3 x4 x5 x7 x8 x9 x10 x11 x12 x13 x14 x15 x16 (1 : Int32) m80 D79))
                                            · refine z_iconst (pc := 748) d_LW_holds_748 ki_0 ?_
                                              refine z_kc (by omega) (by omega) (z_sub [0, 1, 2, 3, 4, 5, 6, 7, 8, 9, 10, 11, 12, 13, 14] rfl (h749 x2 x3 x4 x5 x7 x8 x9 x10 x11 x12 x13 x14 x15 x16 (0 : Int32) m80 D79))
                                      · refine z_kc (by omega) (by omega) (z_sub [0, 1, 2, 3, 4, 5, 6, 7, 8, 9, 10] rfl (h805 x2 x3 x4 x5 x7 x8 x9 x10 x11 x12 m77 D76))
                                    · refine z_iload (pc := 709) d_LW_holds_709 11 rfl ?_
                                      refine z_if_ne (pc := 711) (tgt := 718) d_LW_holds_711 (by decide) ?_ ?_
                                      · refine z_iconst (pc := 714) d_LW_holds_714 ki_1 ?_
                                        refine z_goto (pc := 715) (tgt := 719) d_LW_holds_715 (by decide) ?_
                                        refine z_kc (by omega) (by omega) (z_sub [0, 1, 2, 3, 4, 5, 6, 7, 8, 9, 10, 11, 12, 13, 14] rfl (h719 x2 x3 x4 x5 x7 x8 x9 x10 x11 x12 x13 x14 x15 x16 s0 (1 : Int32) m75 D74))
                                      · refine z_iconst (pc := 718) d_LW_holds_718 ki_0 ?_
                                        refine z_kc (by omega) (by omega) (z_sub [0, 1, 2, 3, 4, 5, 6, 7, 8, 9, 10, 11, 12, 13, 14] rfl (h719 x2 x3 x4 x5 x7 x8 x9 x10 x11 x12 x13 x14 x15 x16 s0 (0 : Int32) m75 D74))
                                  · refine z_aload_n (pc := 689) d_LW_holds_689 rfl 0 rfl ?_
                                    refine z_bipush (pc := 690) d_LW_holds_690 kb_7 ?_
                                    refine z_iload (pc := 692) d_LW_holds_692 9 rfl ?_
                                    refine z_iload (pc := 694) d_LW_holds_694 10 rfl ?_
                                    refine z_iconst (pc := 696) d_LW_holds_696 ki_3 ?_
                                    refine z_callYA (pc := 697) (kc2 := (n431 * 60 + n562 * 9 + 377)) (ks2 := (n431 * 360 + n562 * 54 + 2262)) [.ref r0, .int (7 : Int32), .int x11, .int x12, .int (3 : Int32)] lkS_LW_156 (c_LW_call (m68, w) D67 r0 (7 : Int32) x11 x12 (3 : Int32)) (by decide) (by omega) (by omega) rfl rfl (Nat.le_of_ble_eq_true rfl) d_LW_holds_697 (fun v87 D88 m89 => ?_)
                                    refine z_iconst (pc := 700) d_LW_holds_700 ki_m1 ?_
                                    refine z_icmp_ne (pc := 701) (tgt := 708) d_LW_holds_701 (by decide) ?_ ?_
                                    · refine z_iconst (pc := 704) d_LW_holds_704 ki_1 ?_
                                      refine z_goto (pc := 705) (tgt := 709) d_LW_holds_705 (by decide) ?_
                                      refine z_kc (by omega) (by omega) (z_sub [0, 1, 2, 3, 4, 5, 6, 7, 8, 9, 10, 11, 12, 13, 14] rfl (h709 x2 x3 x4 x5 x7 x8 x9 x10 x11 x12 x13 x14 x15 x16 (1 : Int32) m89 D88))
                                    · refine z_iconst (pc := 708) d_LW_holds_708 ki_0 ?_
                                      refine z_kc (by omega) (by omega) (z_sub [0, 1, 2, 3, 4, 5, 6, 7, 8, 9, 10, 11, 12, 13, 14] rfl (h709 x2 x3 x4 x5 x7 x8 x9 x10 x11 x12 x13 x14 x15 x16 (0 : Int32) m89 D88))
                          · refine z_aload_n (pc := 573) d_LW_holds_573 rfl 0 rfl ?_
                            refine z_bipush (pc := 574) d_LW_holds_574 kb_7 ?_
                            refine z_iload (pc := 576) d_LW_holds_576 10 rfl ?_
                            refine z_iload (pc := 578) d_LW_holds_578 11 rfl ?_
                            refine z_iconst (pc := 580) d_LW_holds_580 ki_0 ?_
                            refine z_callYA (pc := 581) (kc2 := (n431 * 60 + n562 * 9 + 384)) (ks2 := (n431 * 360 + n562 * 54 + 2304)) [.ref r0, .int (7 : Int32), .int x11, .int x12, .int (0 : Int32)] lkS_LW_156 (c_LW_call (m63, w) D62 r0 (7 : Int32) x11 x12 (0 : Int32)) (by decide) (by omega) (by omega) rfl rfl (Nat.le_of_ble_eq_true rfl) d_LW_holds_581 (fun v90 D91 m92 => ?_)
                            refine z_istore (pc := 584) d_LW_holds_584 (by decide) (lv' := [(13, .int v90), (0, .ref r0), (2, .int x2), (3, .int x3), (4, .int x4), (5, .int x5), (6, .int x6), (7, .int x7), (8, .int x8), (9, .int x9), (10, .int x10), (11, .int x11), (12, .int x12)]) rfl ?_
                            refine z_aload_n (pc := 586) d_LW_holds_586 rfl 1 rfl ?_
                            refine z_bipush (pc := 587) d_LW_holds_587 kb_7 ?_
                            refine z_iload (pc := 589) d_LW_holds_589 11 rfl ?_
                            refine z_iload (pc := 591) d_LW_holds_591 12 rfl ?_
                            refine z_iconst (pc := 593) d_LW_holds_593 ki_4 ?_
                            refine z_callYA (pc := 594) (kc2 := (n431 * 60 + n562 * 9 + 383)) (ks2 := (n431 * 360 + n562 * 54 + 2298)) [.ref r0, .int (7 : Int32), .int x11, .int x12, .int (4 : Int32)] lkS_LW_156 (c_LW_call (m92, w) D91 r0 (7 : Int32) x11 x12 (4 : Int32)) (by decide) (by omega) (by omega) rfl rfl (Nat.le_of_ble_eq_true rfl) d_LW_holds_594 (fun v93 D94 m95 => ?_)
                            refine z_istore (pc := 597) d_LW_holds_597 (by decide) (lv' := [(14, .int v93), (13, .int v90), (0, .ref r0), (2, .int x2), (3, .int x3), (4, .int x4), (5, .int x5), (6, .int x6), (7, .int x7), (8, .int x8), (9, .int x9), (10, .int x10), (11, .int x11), (12, .int x12)]) rfl ?_
                            refine z_aload_n (pc := 599) d_LW_holds_599 rfl 2 rfl ?_
                            refine z_bipush (pc := 600) d_LW_holds_600 kb_7 ?_
                            refine z_iload (pc := 602) d_LW_holds_602 12 rfl ?_
                            refine z_iload (pc := 604) d_LW_holds_604 13 rfl ?_
                            refine z_iconst (pc := 606) d_LW_holds_606 ki_5 ?_
                            refine z_callYA (pc := 607) (kc2 := (n431 * 60 + n562 * 9 + 382)) (ks2 := (n431 * 360 + n562 * 54 + 2292)) [.ref r0, .int (7 : Int32), .int x11, .int x12, .int (5 : Int32)] lkS_LW_156 (c_LW_call (m95, w) D94 r0 (7 : Int32) x11 x12 (5 : Int32)) (by decide) (by omega) (by omega) rfl rfl (Nat.le_of_ble_eq_true rfl) d_LW_holds_607 (fun v96 D97 m98 => ?_)
                            refine z_istore (pc := 610) d_LW_holds_610 (by decide) (lv' := [(15, .int v96), (14, .int v93), (13, .int v90), (0, .ref r0), (2, .int x2), (3, .int x3), (4, .int x4), (5, .int x5), (6, .int x6), (7, .int x7), (8, .int x8), (9, .int x9), (10, .int x10), (11, .int x11), (12, .int x12)]) rfl ?_
                            refine z_aload_n (pc := 612) d_LW_holds_612 rfl 3 rfl ?_
                            refine z_iconst (pc := 613) d_LW_holds_613 ki_3 ?_
                            refine z_iload (pc := 614) d_LW_holds_614 14 rfl ?_
                            refine z_iconst (pc := 616) d_LW_holds_616 ki_4 ?_
                            refine z_iconst (pc := 617) d_LW_holds_617 ki_0 ?_
                            refine z_callYA (pc := 618) (kc2 := (n431 * 60 + n562 * 9 + 381)) (ks2 := (n431 * 360 + n562 * 54 + 2286)) [.ref r0, .int (3 : Int32), .int x12, .int (4 : Int32), .int (0 : Int32)] lkS_LW_156 (c_LW_call (m98, w) D97 r0 (3 : Int32) x12 (4 : Int32) (0 : Int32)) (by decide) (by omega) (by omega) rfl rfl (Nat.le_of_ble_eq_true rfl) d_LW_holds_618 (fun v99 D100 m101 => ?_)
                            refine z_istore (pc := 621) d_LW_holds_621 (by decide) (lv' := [(16, .int v99), (15, .int v96), (14, .int v93), (13, .int v90), (0, .ref r0), (2, .int x2), (3, .int x3), (4, .int x4), (5, .int x5), (6, .int x6), (7, .int x7), (8, .int x8), (9, .int x9), (10, .int x10), (11, .int x11), (12, .int x12)]) rfl ?_
                            refine z_iload (pc := 623) d_LW_holds_623 10 rfl ?_
                            refine z_iload (pc := 625) d_LW_holds_625 3 rfl ?_
                            refine z_iadd (pc := 627) d_LW_holds_627 ?_
                            refine z_leti (fun v102 => ?_)
                            refine z_istore (pc := 628) d_LW_holds_628 (by decide) (lv' := [(7, .int v102), (16, .int v99), (15, .int v96), (14, .int v93), (13, .int v90), (0, .ref r0), (2, .int x2), (3, .int x3), (4, .int x4), (5, .int x5), (6, .int x6), (8, .int x8), (9, .int x9), (10, .int x10), (11, .int x11), (12, .int x12)]) rfl ?_
                            refine z_iload (pc := 630) d_LW_holds_630 11 rfl ?_
                            refine z_aload_n (pc := 632) d_LW_holds_632 rfl 5 rfl ?_
                            refine z_bipush (pc := 633) d_LW_holds_633 kb_7 ?_
                            refine z_iload (pc := 635) d_LW_holds_635 14 rfl ?_
                            refine z_iload (pc := 637) d_LW_holds_637 15 rfl ?_
                            refine z_iconst (pc := 639) d_LW_holds_639 ki_1 ?_
                            refine z_callYA (pc := 640) (kc2 := (n431 * 60 + n562 * 9 + 380)) (ks2 := (n431 * 360 + n562 * 54 + 2280)) [.ref r0, .int (7 : Int32), .int x11, .int x12, .int (1 : Int32)] lkS_LW_156 (c_LW_call (m101, w) D100 r0 (7 : Int32) x11 x12 (1 : Int32)) (by decide) (by omega) (by omega) rfl rfl (Nat.le_of_ble_eq_true rfl) d_LW_holds_640 (fun v103 D104 m105 => ?_)
                            refine z_iadd (pc := 643) d_LW_holds_643 ?_
                            refine z_leti (fun v106 => ?_)
                            refine z_istore (pc := 644) d_LW_holds_644 (by decide) (lv' := [(8, .int v106), (7, .int v102), (16, .int v99), (15, .int v96), (14, .int v93), (13, .int v90), (0, .ref r0), (2, .int x2), (3, .int x3), (4, .int x4), (5, .int x5), (6, .int x6), (9, .int x9), (10, .int x10), (11, .int x11), (12, .int x12)]) rfl ?_
                            refine z_iload (pc := 646) d_LW_holds_646 12 rfl ?_
                            refine z_aload_n (pc := 648) d_LW_holds_648 rfl 6 rfl ?_
                            refine z_bipush (pc := 649) d_LW_holds_649 kb_7 ?_
                            refine z_iload (pc := 651) d_LW_holds_651 14 rfl ?_
                            refine z_iload (pc := 653) d_LW_holds_653 15 rfl ?_
                            refine z_iconst (pc := 655) d_LW_holds_655 ki_2 ?_
                            refine z_callYA (pc := 656) (kc2 := (n431 * 60 + n562 * 9 + 379)) (ks2 := (n431 * 360 + n562 * 54 + 2274)) [.ref r0, .int (7 : Int32), .int x11, .int x12, .int (2 : Int32)] lkS_LW_156 (c_LW_call (m105, w) D104 r0 (7 : Int32) x11 x12 (2 : Int32)) (by decide) (by omega) (by omega) rfl rfl (Nat.le_of_ble_eq_true rfl) d_LW_holds_656 (fun v107 D108 m109 => ?_)
                            refine z_iadd (pc := 659) d_LW_holds_659 ?_
                            refine z_leti (fun v110 => ?_)
                            refine z_istore (pc := 660) d_LW_holds_660 (by decide) (lv' := [(9, .int v110), (8, .int v106), (7, .int v102), (16, .int v99), (15, .int v96), (14, .int v93), (13, .int v90), (0, .ref r0), (2, .int x2), (3, .int x3), (4, .int x4), (5, .int x5), (6, .int x6), (10, .int x10), (11, .int x11), (12, .int x12)]) rfl ?_
                            refine z_aload_n (pc := 662) d_LW_holds_662 rfl 7 rfl ?_
                            refine z_bipush (pc := 663) d_LW_holds_663 kb_7 ?_
                            refine z_iload (pc := 665) d_LW_holds_665 14 rfl ?_
                            refine z_iload (pc := 667) d_LW_holds_667 15 rfl ?_
                            refine z_iconst (pc := 669) d_LW_holds_669 ki_2 ?_
                            refine z_callYA (pc := 670) (kc2 := (n431 * 60 + n562 * 9 + 378)) (ks2 := (n431 * 360 + n562 * 54 + 2268)) [.ref r0, .int (7 : Int32), .int x11, .int x12, .int (2 : Int32)] lkS_LW_156 (c_LW_call (m109, w) D108 r0 (7 : Int32) x11 x12 (2 : Int32)) (by decide) (by omega) (by omega) rfl rfl (Nat.le_of_ble_eq_true rfl) d_LW_holds_670 (fun v111 D112 m113 => ?_)
                            refine z_iload (pc := 673) d_LW_holds_673 6 rfl ?_
                            refine z_if_le (pc := 675) (tgt := 685) d_LW_holds_675 (by decide) ?_ ?_
                            · refine z_iconst (pc := 685) d_LW_holds_685 ki_0 ?_
                              refine z_kc (by omega) (by omega) (z_sub [7, 8, 9, 10, 11, 2, 1, 0, 13, 14, 15, 6, 5, 4, 3] rfl (h686 x2 x3 x4 x5 v102 v106 v110 x10 x11 x12 v90 v93 v96 v99 v111 (0 : Int32) m113 D112))
                            · refine z_iload (pc := 678) d_LW_holds_678 6 rfl ?_
                              refine z_iconst (pc := 680) d_LW_holds_680 ki_1 ?_
                              refine z_isub (pc := 681) d_LW_holds_681 ?_
                              refine z_goto (pc := 682) (tgt := 686) d_LW_holds_682 (by decide) ?_
                              refine z_kc (by omega) (by omega) (z_sub [7, 8, 9, 10, 11, 2, 1, 0, 13, 14, 15, 6, 5, 4, 3] rfl (h686 x2 x3 x4 x5 v102 v106 v110 x10 x11 x12 v90 v93 v96 v99 v111 (v90 - (1 : Int32)) m113 D112))
                  · refine z_istore (pc := 557) d_LW_holds_557 (by decide) (lv' := [(6, .int s0), (0, .ref r0), (2, .int x2), (3, .int x3), (4, .int x4), (5, .int x5), (7, .int x7), (8, .int x8), (9, .int x9), (10, .int x10), (11, .int x11)]) rfl ?_
                    refine z_iconst (pc := 559) d_LW_holds_559 ki_0 ?_
                    refine z_istore (pc := 560) d_LW_holds_560 (by decide) (lv' := [(12, .int (0 : Int32)), (6, .int s0), (0, .ref r0), (2, .int x2), (3, .int x3), (4, .int x4), (5, .int x5), (7, .int x7), (8, .int x8), (9, .int x9), (10, .int x10), (11, .int x11)]) rfl ?_
                    refine z_kc (by omega) (by omega) (z_sub [2, 3, 4, 5, 6, 1, 7, 8, 9, 10, 11, 0] rfl (h562 x2 x3 x4 x5 s0 x7 x8 x9 x10 x11 (0 : Int32) m61 D60))
                · refine z_jp (fun j556 : Int32 → Int32 → Int32 → Int32 → Int32 → Int32 → Int32 → Int32 → Int32 → zD → Option (Int32 × zD) => ∀ (x2 : Int32) (x3 : Int32) (x4 : Int32) (x5 : Int32) (x7 : Int32) (x8 : Int32) (x9 : Int32) (x10 : Int32) (x11 : Int32) (m115 : Nat) (D114 : zD), zGO K Y_LW_holds 11 831 4986 (zqY w) (j556 x2 x3 x4 x5 x7 x8 x9 x10 x11 D114) (n431 * 60 + 430) (n431 * 360 + 2580) (m115, w) D114 556 [(0, .ref r0), (2, .int x2), (3, .int x3), (4, .int x4), (5, .int x5), (7, .int x7), (8, .int x8), (9, .int x9), (10, .int x10), (11, .int x11)] []) (fun x2 x3 x4 x5 x7 x8 x9 x10 x11 m115 D114 => ?_) (fun j556 h556 => ?_)
                  · refine z_iconst (pc := 556) d_LW_holds_556 ki_0 ?_
                    refine z_kc (by omega) (by omega) (z_sub [0, 1, 2, 3, 4, 5, 6, 7, 8, 9] rfl (h557 x2 x3 x4 x5 x7 x8 x9 x10 x11 (0 : Int32) m115 D114))
                  · refine z_iload (pc := 442) d_LW_holds_442 9 rfl ?_
                    refine z_aload_n (pc := 444) d_LW_holds_444 rfl 0 rfl ?_
                    refine z_iconst (pc := 445) d_LW_holds_445 ki_4 ?_
                    refine z_iload (pc := 446) d_LW_holds_446 10 rfl ?_
                    refine z_iconst (pc := 448) d_LW_holds_448 ki_4 ?_
                    refine z_iconst (pc := 449) d_LW_holds_449 ki_0 ?_
                    refine z_callYA (pc := 450) (kc2 := (n431 * 60 + 435)) (ks2 := (n431 * 360 + 2610)) [.ref r0, .int (4 : Int32), .int x11, .int (4 : Int32), .int (0 : Int32)] lkS_LW_156 (c_LW_call (m8, w) D7 r0 (4 : Int32) x11 (4 : Int32) (0 : Int32)) (by decide) (by omega) (by omega) rfl rfl (Nat.le_of_ble_eq_true rfl) d_LW_holds_450 (fun v116 D117 m118 => ?_)
                    refine z_iadd (pc := 453) d_LW_holds_453 ?_
                    refine z_leti (fun v119 => ?_)
                    refine z_istore (pc := 454) d_LW_holds_454 (by decide) (lv' := [(10, .int v119), (0, .ref r0), (2, .int x2), (3, .int x3), (4, .int x4), (5, .int x5), (6, .int x6), (7, .int x7), (8, .int x8), (9, .int x9), (11, .int x11)]) rfl ?_
                    refine z_aload_n (pc := 456) d_LW_holds_456 rfl 1 rfl ?_
                    refine z_iconst (pc := 457) d_LW_holds_457 ki_4 ?_
                    refine z_iload (pc := 458) d_LW_holds_458 10 rfl ?_
                    refine z_iconst (pc := 460) d_LW_holds_460 ki_0 ?_
                    refine z_iconst (pc := 461) d_LW_holds_461 ki_0 ?_
                    refine z_callYA (pc := 462) (kc2 := (n431 * 60 + 434)) (ks2 := (n431 * 360 + 2604)) [.ref r0, .int (4 : Int32), .int x11, .int (0 : Int32), .int (0 : Int32)] lkS_LW_156 (c_LW_call (m118, w) D117 r0 (4 : Int32) x11 (0 : Int32) (0 : Int32)) (by decide) (by omega) (by omega) rfl rfl (Nat.le_of_ble_eq_true rfl) d_LW_holds_462 (fun v120 D121 m122 => ?_)
                    refine z_callSi (pc := 465) [.int v120] lkS_LW_185 (c_LW_size (m122, w) D121 v120) (by decide) rfl rfl (Nat.le_of_ble_eq_true rfl) d_LW_holds_465 (fun v123 D124 => ?_)
                    refine z_bipush (pc := 468) d_LW_holds_468 kb_40 ?_
                    refine z_icmp_gt (pc := 470) (tgt := 556) d_LW_holds_470 (by decide) ?_ ?_
                    · refine z_kc (by omega) (by omega) (z_sub [1, 2, 3, 4, 5, 7, 8, 9, 0, 10] rfl (h556 x2 x3 x4 x5 x7 x8 x9 v119 x11 m122 D124))
                    · refine z_aload_n (pc := 473) d_LW_holds_473 rfl 1 rfl ?_
                      refine z_iconst (pc := 474) d_LW_holds_474 ki_4 ?_
                      refine z_iload (pc := 475) d_LW_holds_475 10 rfl ?_
                      refine z_iconst (pc := 477) d_LW_holds_477 ki_1 ?_
                      refine z_iconst (pc := 478) d_LW_holds_478 ki_0 ?_
                      refine z_callYA (pc := 479) (kc2 := (n431 * 60 + 433)) (ks2 := (n431 * 360 + 2598)) [.ref r0, .int (4 : Int32), .int x11, .int (1 : Int32), .int (0 : Int32)] lkS_LW_156 (c_LW_call (m122, w) D124 r0 (4 : Int32) x11 (1 : Int32) (0 : Int32)) (by decide) (by omega) (by omega) rfl rfl (Nat.le_of_ble_eq_true rfl) d_LW_holds_479 (fun v125 D126 m127 => ?_)
                      refine z_callSi (pc := 482) [.int v125] lkS_LW_185 (c_LW_size (m127, w) D126 v125) (by decide) rfl rfl (Nat.le_of_ble_eq_true rfl) d_LW_holds_482 (fun v128 D129 => ?_)
                      refine z_bipush (pc := 485) d_LW_holds_485 kb_40 ?_
                      refine z_icmp_gt (pc := 487) (tgt := 556) d_LW_holds_487 (by decide) ?_ ?_
                      · refine z_kc (by omega) (by omega) (z_sub [1, 2, 3, 4, 5, 7, 8, 9, 0, 10] rfl (h556 x2 x3 x4 x5 x7 x8 x9 v119 x11 m127 D129))
                      · refine z_aload_n (pc := 490) d_LW_holds_490 rfl 1 rfl ?_
                        refine z_iconst (pc := 491) d_LW_holds_491 ki_4 ?_
                        refine z_iload (pc := 492) d_LW_holds_492 10 rfl ?_
                        refine z_iconst (pc := 494) d_LW_holds_494 ki_2 ?_
                        refine z_iconst (pc := 495) d_LW_holds_495 ki_0 ?_
                        refine z_callYA (pc := 496) (kc2 := (n431 * 60 + 432)) (ks2 := (n431 * 360 + 2592)) [.ref r0, .int (4 : Int32), .int x11, .int (2 : Int32), .int (0 : Int32)] lkS_LW_156 (c_LW_call (m127, w) D129 r0 (4 : Int32) x11 (2 : Int32) (0 : Int32)) (by decide) (by omega) (by omega) rfl rfl (Nat.le_of_ble_eq_true rfl) d_LW_holds_496 (fun v130 D131 m132 => ?_)
                        refine z_callSi (pc := 499) [.int v130] lkS_LW_185 (c_LW_size (m132, w) D131 v130) (by decide) rfl rfl (Nat.le_of_ble_eq_true rfl) d_LW_holds_499 (fun v133 D134 => ?_)
                        refine z_iconst (pc := 502) d_LW_holds_502 ki_2 ?_
                        refine z_icmp_gt (pc := 503) (tgt := 556) d_LW_holds_503 (by decide) ?_ ?_
                        · refine z_kc (by omega) (by omega) (z_sub [1, 2, 3, 4, 5, 7, 8, 9, 0, 10] rfl (h556 x2 x3 x4 x5 x7 x8 x9 v119 x11 m132 D134))
                        · refine z_aload_n (pc := 506) d_LW_holds_506 rfl 1 rfl ?_
                          refine z_iconst (pc := 507) d_LW_holds_507 ki_4 ?_
                          refine z_iload (pc := 508) d_LW_holds_508 10 rfl ?_
                          refine z_iconst (pc := 510) d_LW_holds_510 ki_3 ?_
                          refine z_iconst (pc := 511) d_LW_holds_511 ki_0 ?_
                          refine z_callYA (pc := 512) (kc2 := (n431 * 60 + 431)) (ks2 := (n431 * 360 + 2586)) [.ref r0, .int (4 : Int32), .int x11, .int (3 : Int32), .int (0 : Int32)] lkS_LW_156 (c_LW_call (m132, w) D134 r0 (4 : Int32) x11 (3 : Int32) (0 : Int32)) (by decide) (by omega) (by omega) rfl rfl (Nat.le_of_ble_eq_true rfl) d_LW_holds_512 (fun v135 D136 m137 => ?_)
                          refine z_callSi (pc := 515) [.int v135] lkS_LW_185 (c_LW_size (m137, w) D136 v135) (by decide) rfl rfl (Nat.le_of_ble_eq_true rfl) d_LW_holds_515 (fun v138 D139 => ?_)
                          refine z_iconst (pc := 518) d_LW_holds_518 ki_2 ?_
                          refine z_icmp_gt (pc := 519) (tgt := 556) d_LW_holds_519 (by decide) ?_ ?_
                          · refine z_kc (by omega) (by omega) (z_sub [1, 2, 3, 4, 5, 7, 8, 9, 0, 10] rfl (h556 x2 x3 x4 x5 x7 x8 x9 v119 x11 m137 D139))
                          · refine z_jp (fun j540 : Int32 → Int32 → Int32 → Int32 → Int32 → Int32 → Int32 → Int32 → Int32 → Int32 → zD → Option (Int32 × zD) => ∀ (x2 : Int32) (x3 : Int32) (x4 : Int32) (x5 : Int32) (x7 : Int32) (x8 : Int32) (x9 : Int32) (x10 : Int32) (x11 : Int32) (s0 : Int32) (m141 : Nat) (D140 : zD), zGO K Y_LW_holds 11 831 4986 (zqY w) (j540 x2 x3 x4 x5 x7 x8 x9 x10 x11 s0 D140) (n431 * 60 + 430) (n431 * 360 + 2580) (m141, w) D140 540 [(0, .ref r0), (2, .int x2), (3, .int x3), (4, .int x4), (5, .int x5), (7, .int x7), (8, .int x8), (9, .int x9), (10, .int x10), (11, .int x11)] [.int s0]) (fun x2 x3 x4 x5 x7 x8 x9 x10 x11 s0 m141 D140 => ?_) (fun j540 h540 => ?_)
                            · refine z_jp (fun j549 : Int32 → Int32 → Int32 → Int32 → Int32 → Int32 → Int32 → Int32 → Int32 → Int32 → Int32 → zD → Option (Int32 × zD) => ∀ (x2 : Int32) (x3 : Int32) (x4 : Int32) (x5 : Int32) (x7 : Int32) (x8 : Int32) (x9 : Int32) (x10 : Int32) (x11 : Int32) (s0 : Int32) (s1 : Int32) (m143 : Nat) (D142 : zD), zGO K Y_LW_holds 11 831 4986 (zqY w) (j549 x2 x3 x4 x5 x7 x8 x9 x10 x11 s0 s1 D142) (n431 * 60 + 430) (n431 * 360 + 2580) (m143, w) D142 549 [(0, .ref r0), (2, .int x2), (3, .int x3), (4, .int x4), (5, .int x5), (7, .int x7), (8, .int x8), (9, .int x9), (10, .int x10), (11, .int x11)] [.int s1, .int s0]) (fun x2 x3 x4 x5 x7 x8 x9 x10 x11 s0 s1 m143 D142 => ?_) (fun j549 h549 => ?_)
                              · refine z_icmp_ne (pc := 549) (tgt := 556) d_LW_holds_549 (by decide) ?_ ?_
                                · refine z_iconst (pc := 552) d_LW_holds_552 ki_1 ?_
                                  refine z_goto (pc := 553) (tgt := 557) d_LW_holds_553 (by decide) ?_
                                  refine z_kc (by omega) (by omega) (z_sub [0, 1, 2, 3, 4, 5, 6, 7, 8, 9] rfl (h557 x2 x3 x4 x5 x7 x8 x9 x10 x11 (1 : Int32) m143 D142))
                                · refine z_kc (by omega) (by omega) (z_sub [0, 1, 2, 3, 4, 5, 6, 7, 8, 9] rfl (h556 x2 x3 x4 x5 x7 x8 x9 x10 x11 m143 D142))
                              · refine z_iload_n (pc := 540) d_LW_holds_540 rfl 1 rfl ?_
                                refine z_if_ne (pc := 541) (tgt := 548) d_LW_holds_541 (by decide) ?_ ?_
                                · refine z_iconst (pc := 544) d_LW_holds_544 ki_1 ?_
                                  refine z_goto (pc := 545) (tgt := 549) d_LW_holds_545 (by decide) ?_
                                  refine z_kc (by omega) (by omega) (z_sub [0, 1, 2, 3, 4, 5, 6, 7, 8, 9] rfl (h549 x2 x3 x4 x5 x7 x8 x9 x10 x11 s0 (1 : Int32) m141 D140))
                                · refine z_iconst (pc := 548) d_LW_holds_548 ki_0 ?_
                                  refine z_kc (by omega) (by omega) (z_sub [0, 1, 2, 3, 4, 5, 6, 7, 8, 9] rfl (h549 x2 x3 x4 x5 x7 x8 x9 x10 x11 s0 (0 : Int32) m141 D140))
                            · refine z_aload_n (pc := 522) d_LW_holds_522 rfl 1 rfl ?_
                              refine z_iconst (pc := 523) d_LW_holds_523 ki_4 ?_
                              refine z_iload (pc := 524) d_LW_holds_524 10 rfl ?_
                              refine z_iconst (pc := 526) d_LW_holds_526 ki_5 ?_
                              refine z_iconst (pc := 527) d_LW_holds_527 ki_0 ?_
                              refine z_callYA (pc := 528) (kc2 := (n431 * 60 + 430)) (ks2 := (n431 * 360 + 2580)) [.ref r0, .int (4 : Int32), .int x11, .int (5 : Int32), .int (0 : Int32)] lkS_LW_156 (c_LW_call (m137, w) D139 r0 (4 : Int32) x11 (5 : Int32) (0 : Int32)) (by decide) (by omega) (by omega) rfl rfl (Nat.le_of_ble_eq_true rfl) d_LW_holds_528 (fun v144 D145 m146 => ?_)
                              refine z_iconst (pc := 531) d_LW_holds_531 ki_m1 ?_
                              refine z_icmp_ne (pc := 532) (tgt := 539) d_LW_holds_532 (by decide) ?_ ?_
                              · refine z_iconst (pc := 535) d_LW_holds_535 ki_1 ?_
                                refine z_goto (pc := 536) (tgt := 540) d_LW_holds_536 (by decide) ?_
                                refine z_kc (by omega) (by omega) (z_sub [1, 2, 3, 4, 5, 7, 8, 9, 0, 10] rfl (h540 x2 x3 x4 x5 x7 x8 x9 v119 x11 (1 : Int32) m146 D145))
                              · refine z_iconst (pc := 539) d_LW_holds_539 ki_0 ?_
                                refine z_kc (by omega) (by omega) (z_sub [1, 2, 3, 4, 5, 7, 8, 9, 0, 10] rfl (h540 x2 x3 x4 x5 x7 x8 x9 v119 x11 (0 : Int32) m146 D145))
        · refine z_iconst (pc := 428) d_LW_holds_428 ki_0 ?_
          refine z_istore (pc := 429) d_LW_holds_429 (by decide) (lv' := [(11, .int (0 : Int32)), (0, .ref r0), (2, .int x2), (3, .int x3), (4, .int x4), (5, .int x5), (6, .int x6), (7, .int x7), (8, .int x8), (9, .int x9), (10, .int x10)]) rfl ?_
          refine z_kc (by omega) (by omega) (z_sub [1, 2, 3, 4, 5, 6, 7, 8, 9, 10, 0] rfl (h431 x2 x3 x4 x5 x6 x7 x8 x9 x10 (0 : Int32) m6 D5))
      · refine z_iload (pc := 90) d_LW_holds_90 11 rfl ?_
        refine z_iload_n (pc := 92) d_LW_holds_92 rfl 2 rfl ?_
        refine z_icmp_ge (pc := 93) (tgt := 428) d_LW_holds_93 (by decide) ?_ ?_
        · refine z_kc (by omega) (by omega) (z_sub [0, 2, 3, 4, 5, 6, 7, 8, 9, 10] rfl (h428 x2 x3 x4 x5 x6 x7 x8 x9 x10 m4 D3))
        · refine z_iload (pc := 96) d_LW_holds_96 6 rfl ?_
          refine z_if_eq (pc := 98) (tgt := 428) d_LW_holds_98 (by decide) ?_ ?_
          · refine z_kc (by omega) (by omega) (z_sub [0, 2, 3, 4, 5, 6, 7, 8, 9, 10] rfl (h428 x2 x3 x4 x5 x6 x7 x8 x9 x10 m4 D3))
          · refine z_jp (fun j420 : Int32 → Int32 → Int32 → Int32 → Int32 → Int32 → Int32 → Int32 → Int32 → Int32 → zD → Option (Int32 × zD) => ∀ (x2 : Int32) (x3 : Int32) (x4 : Int32) (x5 : Int32) (x7 : Int32) (x8 : Int32) (x9 : Int32) (x10 : Int32) (x11 : Int32) (s0 : Int32) (m148 : Nat) (D147 : zD), zGO K Y_LW_holds 11 831 4986 (zqY w) (j420 x2 x3 x4 x5 x7 x8 x9 x10 x11 s0 D147) (n90 * 15 + 736) (n90 * 90 + 4416) (m148, w) D147 420 [(0, .ref r0), (1, .int x1), (2, .int x2), (3, .int x3), (4, .int x4), (5, .int x5), (7, .int x7), (8, .int x8), (9, .int x9), (10, .int x10), (11, .int x11)] [.int s0]) (fun x2 x3 x4 x5 x7 x8 x9 x10 x11 s0 m148 D147 => ?_) (fun j420 h420 => ?_)
            · refine z_istore (pc := 420) d_LW_holds_420 (by decide) (lv' := [(6, .int s0), (0, .ref r0), (1, .int x1), (2, .int x2), (3, .int x3), (4, .int x4), (5, .int x5), (7, .int x7), (8, .int x8), (9, .int x9), (10, .int x10), (11, .int x11)]) rfl ?_
              refine z_iincL (pc := 422) d_LW_holds_422 ki_1 11 rfl (by decide) (fun v149 => z_lvc (lv2 := [(11, .int v149), (6, .int s0), (0, .ref r0), (1, .int x1), (2, .int x2), (3, .int x3), (4, .int x4), (5, .int x5), (7, .int x7), (8, .int x8), (9, .int x9), (10, .int x10)]) rfl ?_)
              refine z_goto (pc := 425) (tgt := 90) d_LW_holds_425 (by decide) ?_
              refine z_kc (by omega) (by omega) (z_sub [2, 3, 4, 5, 6, 7, 1, 8, 9, 10, 11, 0] rfl (h90 x2 x3 x4 x5 s0 x7 x8 x9 x10 v149 m148 D147))
            · refine z_jp (fun j419 : Int32 → Int32 → Int32 → Int32 → Int32 → Int32 → Int32 → Int32 → Int32 → zD → Option (Int32 × zD) => ∀ (x2 : Int32) (x3 : Int32) (x4 : Int32) (x5 : Int32) (x7 : Int32) (x8 : Int32) (x9 : Int32) (x10 : Int32) (x11 : Int32) (m151 : Nat) (D150 : zD), zGO K Y_LW_holds 11 831 4986 (zqY w) (j419 x2 x3 x4 x5 x7 x8 x9 x10 x11 D150) (n90 * 15 + 736) (n90 * 90 + 4416) (m151, w) D150 419 [(0, .ref r0), (1, .int x1), (2, .int x2), (3, .int x3), (4, .int x4), (5, .int x5), (7, .int x7), (8, .int x8), (9, .int x9), (10, .int x10), (11, .int x11)] []) (fun x2 x3 x4 x5 x7 x8 x9 x10 x11 m151 D150 => ?_) (fun j419 h419 => ?_)
              · refine z_iconst (pc := 419) d_LW_holds_419 ki_0 ?_
                refine z_kc (by omega) (by omega) (z_sub [0, 1, 2, 3, 4, 5, 6, 7, 8, 9, 10] rfl (h420 x2 x3 x4 x5 x7 x8 x9 x10 x11 (0 : Int32) m151 D150))
              · refine z_aload_n (pc := 101) d_LW_holds_101 rfl 0 rfl ?_
                refine z_iconst (pc := 102) d_LW_holds_102 ki_3 ?_
                refine z_iload (pc := 103) d_LW_holds_103 11 rfl ?_
                refine z_iconst (pc := 105) d_LW_holds_105 ki_2 ?_
                refine z_iconst (pc := 106) d_LW_holds_106 ki_0 ?_
                refine z_callYA (pc := 107) (kc2 := (n90 * 15 + 750)) (ks2 := (n90 * 90 + 4500)) [.ref r0, .int (3 : Int32), .int x11, .int (2 : Int32), .int (0 : Int32)] lkS_LW_156 (c_LW_call (m4, w) D3 r0 (3 : Int32) x11 (2 : Int32) (0 : Int32)) (by decide) (by omega) (by omega) rfl rfl (Nat.le_of_ble_eq_true rfl) d_LW_holds_107 (fun v152 D153 m154 => ?_)
                refine z_istore (pc := 110) d_LW_holds_110 (by decide) (lv' := [(12, .int v152), (0, .ref r0), (1, .int x1), (2, .int x2), (3, .int x3), (4, .int x4), (5, .int x5), (6, .int x6), (7, .int x7), (8, .int x8), (9, .int x9), (10, .int x10), (11, .int x11)]) rfl ?_
                refine z_aload_n (pc := 112) d_LW_holds_112 rfl 1 rfl ?_
                refine z_iconst (pc := 113) d_LW_holds_113 ki_3 ?_
                refine z_iload (pc := 114) d_LW_holds_114 12 rfl ?_
                refine z_bipush (pc := 116) d_LW_holds_116 kb_6 ?_
                refine z_iconst (pc := 118) d_LW_holds_118 ki_0 ?_
                refine z_callYA (pc := 119) (kc2 := (n90 * 15 + 749)) (ks2 := (n90 * 90 + 4494)) [.ref r0, .int (3 : Int32), .int x11, .int (6 : Int32), .int (0 : Int32)] lkS_LW_156 (c_LW_call (m154, w) D153 r0 (3 : Int32) x11 (6 : Int32) (0 : Int32)) (by decide) (by omega) (by omega) rfl rfl (Nat.le_of_ble_eq_true rfl) d_LW_holds_119 (fun v155 D156 m157 => ?_)
                refine z_istore (pc := 122) d_LW_holds_122 (by decide) (lv' := [(13, .int v155), (12, .int v152), (0, .ref r0), (1, .int x1), (2, .int x2), (3, .int x3), (4, .int x4), (5, .int x5), (6, .int x6), (7, .int x7), (8, .int x8), (9, .int x9), (10, .int x10), (11, .int x11)]) rfl ?_
                refine z_aload_n (pc := 124) d_LW_holds_124 rfl 2 rfl ?_
                refine z_iconst (pc := 125) d_LW_holds_125 ki_3 ?_
                refine z_iload (pc := 126) d_LW_holds_126 13 rfl ?_
                refine z_bipush (pc := 128) d_LW_holds_128 kb_7 ?_
                refine z_iconst (pc := 130) d_LW_holds_130 ki_0 ?_
                refine z_callYA (pc := 131) (kc2 := (n90 * 15 + 748)) (ks2 := (n90 * 90 + 4488)) [.ref r0, .int (3 : Int32), .int x11, .int (7 : Int32), .int (0 : Int32)] lkS_LW_156 (c_LW_call (m157, w) D156 r0 (3 : Int32) x11 (7 : Int32) (0 : Int32)) (by decide) (by omega) (by omega) rfl rfl (Nat.le_of_ble_eq_true rfl) d_LW_holds_131 (fun v158 D159 m160 => ?_)
                refine z_aload_n (pc := 134) d_LW_holds_134 rfl 2 rfl ?_
                refine z_iconst (pc := 135) d_LW_holds_135 ki_3 ?_
                refine z_iload (pc := 136) d_LW_holds_136 13 rfl ?_
                refine z_iconst (pc := 138) d_LW_holds_138 ki_0 ?_
                refine z_iconst (pc := 139) d_LW_holds_139 ki_0 ?_
                refine z_callYA (pc := 140) (kc2 := (n90 * 15 + 747)) (ks2 := (n90 * 90 + 4482)) [.ref r0, .int (3 : Int32), .int x11, .int (0 : Int32), .int (0 : Int32)] lkS_LW_156 (c_LW_call (m160, w) D159 r0 (3 : Int32) x11 (0 : Int32) (0 : Int32)) (by decide) (by omega) (by omega) rfl rfl (Nat.le_of_ble_eq_true rfl) d_LW_holds_140 (fun v161 D162 m163 => ?_)
                refine z_isub (pc := 143) d_LW_holds_143 ?_
                refine z_leti (fun v164 => ?_)
                refine z_istore (pc := 144) d_LW_holds_144 (by decide) (lv' := [(14, .int v164), (13, .int v155), (12, .int v152), (0, .ref r0), (1, .int x1), (2, .int x2), (3, .int x3), (4, .int x4), (5, .int x5), (6, .int x6), (7, .int x7), (8, .int x8), (9, .int x9), (10, .int x10), (11, .int x11)]) rfl ?_
                refine z_aload_n (pc := 146) d_LW_holds_146 rfl 3 rfl ?_
                refine z_iconst (pc := 147) d_LW_holds_147 ki_3 ?_
                refine z_iload (pc := 148) d_LW_holds_148 14 rfl ?_
                refine z_bipush (pc := 150) d_LW_holds_150 kb_8 ?_
                refine z_iconst (pc := 152) d_LW_holds_152 ki_0 ?_
                refine z_callYA (pc := 153) (kc2 := (n90 * 15 + 746)) (ks2 := (n90 * 90 + 4476)) [.ref r0, .int (3 : Int32), .int x11, .int (8 : Int32), .int (0 : Int32)] lkS_LW_156 (c_LW_call (m163, w) D162 r0 (3 : Int32) x11 (8 : Int32) (0 : Int32)) (by decide) (by omega) (by omega) rfl rfl (Nat.le_of_ble_eq_true rfl) d_LW_holds_153 (fun v165 D166 m167 => ?_)
                refine z_aload_n (pc := 156) d_LW_holds_156 rfl 3 rfl ?_
                refine z_iconst (pc := 157) d_LW_holds_157 ki_3 ?_
                refine z_iload (pc := 158) d_LW_holds_158 14 rfl ?_
                refine z_iconst (pc := 160) d_LW_holds_160 ki_1 ?_
                refine z_iconst (pc := 161) d_LW_holds_161 ki_0 ?_
                refine z_callYA (pc := 162) (kc2 := (n90 * 15 + 745)) (ks2 := (n90 * 90 + 4470)) [.ref r0, .int (3 : Int32), .int x11, .int (1 : Int32), .int (0 : Int32)] lkS_LW_156 (c_LW_call (m167, w) D166 r0 (3 : Int32) x11 (1 : Int32) (0 : Int32)) (by decide) (by omega) (by omega) rfl rfl (Nat.le_of_ble_eq_true rfl) d_LW_holds_162 (fun v168 D169 m170 => ?_)
                refine z_isub (pc := 165) d_LW_holds_165 ?_
                refine z_leti (fun v171 => ?_)
                refine z_istore (pc := 166) d_LW_holds_166 (by decide) (lv' := [(15, .int v171), (14, .int v164), (13, .int v155), (12, .int v152), (0, .ref r0), (1, .int x1), (2, .int x2), (3, .int x3), (4, .int x4), (5, .int x5), (6, .int x6), (7, .int x7), (8, .int x8), (9, .int x9), (10, .int x10), (11, .int x11)]) rfl ?_
                refine z_iload (pc := 168) d_LW_holds_168 2 rfl ?_
                refine z_if_lt (pc := 170) (tgt := 419) d_LW_holds_170 (by decide) ?_ ?_
                · refine z_kc (by omega) (by omega) (z_sub [4, 5, 6, 7, 8, 9, 11, 12, 13, 14, 15] rfl (h419 x2 x3 x4 x5 x7 x8 x9 x10 x11 m170 D169))
                · refine z_iload (pc := 173) d_LW_holds_173 2 rfl ?_
                  refine z_bipush (pc := 175) d_LW_holds_175 kb_8 ?_
                  refine z_iload (pc := 177) d_LW_holds_177 3 rfl ?_
                  refine z_imul (pc := 179) d_LW_holds_179 ?_
                  refine z_icmp_ge (pc := 180) (tgt := 419) d_LW_holds_180 (by decide) ?_ ?_
                  · refine z_kc (by omega) (by omega) (z_sub [4, 5, 6, 7, 8, 9, 11, 12, 13, 14, 15] rfl (h419 x2 x3 x4 x5 x7 x8 x9 x10 x11 m170 D169))
                  · refine z_iload (pc := 183) d_LW_holds_183 1 rfl ?_
                    refine z_callSi (pc := 185) [.int v164] lkS_LW_185 (c_LW_size (m170, w) D169 v164) (by decide) rfl rfl (Nat.le_of_ble_eq_true rfl) d_LW_holds_185 (fun v172 D173 => ?_)
                    refine z_iload (pc := 188) d_LW_holds_188 3 rfl ?_
                    refine z_icmp_gt (pc := 190) (tgt := 419) d_LW_holds_190 (by decide) ?_ ?_
                    · refine z_kc (by omega) (by omega) (z_sub [4, 5, 6, 7, 8, 9, 11, 12, 13, 14, 15] rfl (h419 x2 x3 x4 x5 x7 x8 x9 x10 x11 m170 D173))
                    · refine z_iload (pc := 193) d_LW_holds_193 0 rfl ?_
                      refine z_callSi (pc := 195) [.int v171] lkS_LW_185 (c_LW_size (m170, w) D173 v171) (by decide) rfl rfl (Nat.le_of_ble_eq_true rfl) d_LW_holds_195 (fun v174 D175 => ?_)
                      refine z_iload (pc := 198) d_LW_holds_198 3 rfl ?_
                      refine z_icmp_gt (pc := 200) (tgt := 419) d_LW_holds_200 (by decide) ?_ ?_
                      · refine z_kc (by omega) (by omega) (z_sub [4, 5, 6, 7, 8, 9, 11, 12, 13, 14, 15] rfl (h419 x2 x3 x4 x5 x7 x8 x9 x10 x11 m170 D175))
                      · refine z_jp (fun j223 : Int32 → Int32 → Int32 → Int32 → Int32 → Int32 → Int32 → Int32 → Int32 → Int32 → Int32 → Int32 → Int32 → zD → Option (Int32 × zD) => ∀ (x2 : Int32) (x3 : Int32) (x4 : Int32) (x5 : Int32) (x7 : Int32) (x8 : Int32) (x9 : Int32) (x10 : Int32) (x11 : Int32) (x12 : Int32) (x13 : Int32) (x14 : Int32) (x15 : Int32) (m177 : Nat) (D176 : zD), zGO K Y_LW_holds 11 831 4986 (zqY w) (j223 x2 x3 x4 x5 x7 x8 x9 x10 x11 x12 x13 x14 x15 D176) (n90 * 15 + 745) (n90 * 90 + 4470) (m177, w) D176 223 [(0, .ref r0), (1, .int x1), (2, .int x2), (3, .int x3), (4, .int x4), (5, .int x5), (7, .int x7), (8, .int x8), (9, .int x9), (10, .int x10), (11, .int x11), (12, .int x12), (13, .int x13), (14, .int x14), (15, .int x15)] []) (fun x2 x3 x4 x5 x7 x8 x9 x10 x11 x12 x13 x14 x15 m177 D176 => ?_) (fun j223 h223 => ?_)
                        · refine z_jp (fun j244 : Int32 → Int32 → Int32 → Int32 → Int32 → Int32 → Int32 → Int32 → Int32 → Int32 → Int32 → Int32 → Int32 → zD → Option (Int32 × zD) => ∀ (x2 : Int32) (x3 : Int32) (x4 : Int32) (x5 : Int32) (x7 : Int32) (x8 : Int32) (x9 : Int32) (x10 : Int32) (x11 : Int32) (x12 : Int32) (x13 : Int32) (x14 : Int32) (x15 : Int32) (m179 : Nat) (D178 : zD), zGO K Y_LW_holds 11 831 4986 (zqY w) (j244 x2 x3 x4 x5 x7 x8 x9 x10 x11 x12 x13 x14 x15 D178) (n90 * 15 + 745) (n90 * 90 + 4470) (m179, w) D178 244 [(0, .ref r0), (1, .int x1), (2, .int x2), (3, .int x3), (4, .int x4), (5, .int x5), (7, .int x7), (8, .int x8), (9, .int x9), (10, .int x10), (11, .int x11), (12, .int x12), (13, .int x13), (14, .int x14), (15, .int x15)] []) (fun x2 x3 x4 x5 x7 x8 x9 x10 x11 x12 x13 x14 x15 m179 D178 => ?_) (fun j244 h244 => ?_)
                          · refine z_jp (fun j267 : Int32 → Int32 → Int32 → Int32 → Int32 → Int32 → Int32 → Int32 → Int32 → Int32 → zD → Option (Int32 × zD) => ∀ (x2 : Int32) (x3 : Int32) (x4 : Int32) (x5 : Int32) (x7 : Int32) (x8 : Int32) (x9 : Int32) (x10 : Int32) (x11 : Int32) (x13 : Int32) (m181 : Nat) (D180 : zD), zGO K Y_LW_holds 11 831 4986 (zqY w) (j267 x2 x3 x4 x5 x7 x8 x9 x10 x11 x13 D180) (n90 * 15 + 745) (n90 * 90 + 4470) (m181, w) D180 267 [(0, .ref r0), (1, .int x1), (2, .int x2), (3, .int x3), (4, .int x4), (5, .int x5), (7, .int x7), (8, .int x8), (9, .int x9), (10, .int x10), (11, .int x11), (13, .int x13)] []) (fun x2 x3 x4 x5 x7 x8 x9 x10 x11 x13 m181 D180 => ?_) (fun j267 h267 => ?_)
                            · refine z_jp (fun j296 : Int32 → Int32 → Int32 → Int32 → Int32 → Int32 → Int32 → Int32 → Int32 → Int32 → zD → Option (Int32 × zD) => ∀ (x2 : Int32) (x3 : Int32) (x4 : Int32) (x5 : Int32) (x7 : Int32) (x8 : Int32) (x9 : Int32) (x10 : Int32) (x11 : Int32) (x13 : Int32) (m183 : Nat) (D182 : zD), zGO K Y_LW_holds 11 831 4986 (zqY w) (j296 x2 x3 x4 x5 x7 x8 x9 x10 x11 x13 D182) (n90 * 15 + 743) (n90 * 90 + 4458) (m183, w) D182 296 [(0, .ref r0), (1, .int x1), (2, .int x2), (3, .int x3), (4, .int x4), (5, .int x5), (7, .int x7), (8, .int x8), (9, .int x9), (10, .int x10), (11, .int x11), (13, .int x13)] []) (fun x2 x3 x4 x5 x7 x8 x9 x10 x11 x13 m183 D182 => ?_) (fun j296 h296 => ?_)
                              · refine z_jp (fun j369 : Int32 → Int32 → Int32 → Int32 → Int32 → Int32 → Int32 → Int32 → Int32 → Int32 → zD → Option (Int32 × zD) => ∀ (x2 : Int32) (x3 : Int32) (x4 : Int32) (x5 : Int32) (x7 : Int32) (x8 : Int32) (x9 : Int32) (x10 : Int32) (x11 : Int32) (x13 : Int32) (m185 : Nat) (D184 : zD), zGO K Y_LW_holds 11 831 4986 (zqY w) (j369 x2 x3 x4 x5 x7 x8 x9 x10 x11 x13 D184) (n90 * 15 + 739) (n90 * 90 + 4434) (m185, w) D184 369 [(0, .ref r0), (1, .int x1), (2, .int x2), (3, .int x3), (4, .int x4), (5, .int x5), (7, .int x7), (8, .int x8), (9, .int x9), (10, .int x10), (11, .int x11), (13, .int x13)] []) (fun x2 x3 x4 x5 x7 x8 x9 x10 x11 x13 m185 D184 => ?_) (fun j369 h369 => ?_)
                                · refine z_aload_n (pc := 369) d_LW_holds_369 rfl 0 rfl ?_
                                  refine z_bipush (pc := 370) d_LW_holds_370 kb_12 ?_
                                  refine z_iload (pc := 372) d_LW_holds_372 10 rfl ?_
                                  refine z_iload_n (pc := 374) d_LW_holds_374 rfl 1 rfl ?_
                                  refine z_sipush (pc := 375) d_LW_holds_375 ks_1001 ?_
                                  refine z_iremK (pc := 378) d_LW_holds_378 (by decide) ?_
                                  refine z_iconst (pc := 379) d_LW_holds_379 ki_0 ?_
                                  refine z_callYA (pc := 380) (kc2 := (n90 * 15 + 738)) (ks2 := (n90 * 90 + 4428)) [.ref r0, .int (12 : Int32), .int x11, .int (zirem x1 (1001 : Int32)), .int (0 : Int32)] lkS_LW_156 (c_LW_call (m185, w) D184 r0 (12 : Int32) x11 (zirem x1 (1001 : Int32)) (0 : Int32)) (by decide) (by omega) (by omega) rfl rfl (Nat.le_of_ble_eq_true rfl) d_LW_holds_380 (fun v186 D187 m188 => ?_)
                                  refine z_aload_n (pc := 383) d_LW_holds_383 rfl 0 rfl ?_
                                  refine z_bipush (pc := 384) d_LW_holds_384 kb_12 ?_
                                  refine z_iload (pc := 386) d_LW_holds_386 10 rfl ?_
                                  refine z_iload_n (pc := 388) d_LW_holds_388 rfl 1 rfl ?_
                                  refine z_sipush (pc := 389) d_LW_holds_389 ks_1001 ?_
                                  refine z_iremK (pc := 392) d_LW_holds_392 (by decide) ?_
                                  refine z_iconst (pc := 393) d_LW_holds_393 ki_1 ?_
                                  refine z_callYA (pc := 394) (kc2 := (n90 * 15 + 737)) (ks2 := (n90 * 90 + 4422)) [.ref r0, .int (12 : Int32), .int x11, .int (zirem x1 (1001 : Int32)), .int (1 : Int32)] lkS_LW_156 (c_LW_call (m188, w) D187 r0 (12 : Int32) x11 (zirem x1 (1001 : Int32)) (1 : Int32)) (by decide) (by omega) (by omega) rfl rfl (Nat.le_of_ble_eq_true rfl) d_LW_holds_394 (fun v189 D190 m191 => ?_)
                                  refine z_icmp_ne (pc := 397) (tgt := 419) d_LW_holds_397 (by decide) ?_ ?_
                                  · refine z_aload_n (pc := 400) d_LW_holds_400 rfl 0 rfl ?_
                                    refine z_bipush (pc := 401) d_LW_holds_401 kb_12 ?_
                                    refine z_iload (pc := 403) d_LW_holds_403 10 rfl ?_
                                    refine z_iconst (pc := 405) d_LW_holds_405 ki_0 ?_
                                    refine z_iconst (pc := 406) d_LW_holds_406 ki_1 ?_
                                    refine z_callYA (pc := 407) (kc2 := (n90 * 15 + 736)) (ks2 := (n90 * 90 + 4416)) [.ref r0, .int (12 : Int32), .int x11, .int (0 : Int32), .int (1 : Int32)] lkS_LW_156 (c_LW_call (m191, w) D190 r0 (12 : Int32) x11 (0 : Int32) (1 : Int32)) (by decide) (by omega) (by omega) rfl rfl (Nat.le_of_ble_eq_true rfl) d_LW_holds_407 (fun v192 D193 m194 => ?_)
                                    refine z_iload (pc := 410) d_LW_holds_410 11 rfl ?_
                                    refine z_icmp_ne (pc := 412) (tgt := 419) d_LW_holds_412 (by decide) ?_ ?_
                                    · refine z_iconst (pc := 415) d_LW_holds_415 ki_1 ?_
                                      refine z_goto (pc := 416) (tgt := 420) d_LW_holds_416 (by decide) ?_
                                      refine z_kc (by omega) (by omega) (z_sub [0, 1, 2, 3, 4, 5, 6, 7, 8, 9, 10] rfl (h420 x2 x3 x4 x5 x7 x8 x9 x10 x11 (1 : Int32) m194 D193))
                                    · refine z_kc (by omega) (by omega) (z_sub [0, 1, 2, 3, 4, 5, 6, 7, 8, 9, 10] rfl (h419 x2 x3 x4 x5 x7 x8 x9 x10 x11 m194 D193))
                                  · refine z_kc (by omega) (by omega) (z_sub [0, 1, 2, 3, 4, 5, 6, 7, 8, 9, 10] rfl (h419 x2 x3 x4 x5 x7 x8 x9 x10 x11 m191 D190))
                                · refine z_aload_n (pc := 296) d_LW_holds_296 rfl 0 rfl ?_
                                  refine z_iconst (pc := 297) d_LW_holds_297 ki_3 ?_
                                  refine z_iload (pc := 298) d_LW_holds_298 10 rfl ?_
                                  refine z_iconst (pc := 300) d_LW_holds_300 ki_3 ?_
                                  refine z_iconst (pc := 301) d_LW_holds_301 ki_0 ?_
                                  refine z_callYA (pc := 302) (kc2 := (n90 * 15 + 742)) (ks2 := (n90 * 90 + 4452)) [.ref r0, .int (3 : Int32), .int x11, .int (3 : Int32), .int (0 : Int32)] lkS_LW_156 (c_LW_call (m183, w) D182 r0 (3 : Int32) x11 (3 : Int32) (0 : Int32)) (by decide) (by omega) (by omega) rfl rfl (Nat.le_of_ble_eq_true rfl) d_LW_holds_302 (fun v195 D196 m197 => ?_)
                                  refine z_callSi (pc := 305) [.int v195] lkS_LW_185 (c_LW_size (m197, w) D196 v195) (by decide) rfl rfl (Nat.le_of_ble_eq_true rfl) d_LW_holds_305 (fun v198 D199 => ?_)
                                  refine z_aload_n (pc := 308) d_LW_holds_308 rfl 0 rfl ?_
                                  refine z_iconst (pc := 309) d_LW_holds_309 ki_3 ?_
                                  refine z_iconst (pc := 310) d_LW_holds_310 ki_0 ?_
                                  refine z_iconst (pc := 311) d_LW_holds_311 ki_3 ?_
                                  refine z_iconst (pc := 312) d_LW_holds_312 ki_0 ?_
                                  refine z_callYA (pc := 313) (kc2 := (n90 * 15 + 741)) (ks2 := (n90 * 90 + 4446)) [.ref r0, .int (3 : Int32), .int (0 : Int32), .int (3 : Int32), .int (0 : Int32)] lkS_LW_156 (c_LW_call (m197, w) D199 r0 (3 : Int32) (0 : Int32) (3 : Int32) (0 : Int32)) (by decide) (by omega) (by omega) rfl rfl (Nat.le_of_ble_eq_true rfl) d_LW_holds_313 (fun v200 D201 m202 => ?_)
                                  refine z_callSi (pc := 316) [.int v200] lkS_LW_185 (c_LW_size (m202, w) D201 v200) (by decide) rfl rfl (Nat.le_of_ble_eq_true rfl) d_LW_holds_316 (fun v203 D204 => ?_)
                                  refine z_icmp_le (pc := 319) (tgt := 347) d_LW_holds_319 (by decide) ?_ ?_
                                  · refine z_aload_n (pc := 347) d_LW_holds_347 rfl 0 rfl ?_
                                    refine z_iconst (pc := 348) d_LW_holds_348 ki_3 ?_
                                    refine z_iload (pc := 349) d_LW_holds_349 10 rfl ?_
                                    refine z_bipush (pc := 351) d_LW_holds_351 kb_9 ?_
                                    refine z_iconst (pc := 353) d_LW_holds_353 ki_0 ?_
                                    refine z_callYA (pc := 354) (kc2 := (n90 * 15 + 740)) (ks2 := (n90 * 90 + 4440)) [.ref r0, .int (3 : Int32), .int x11, .int (9 : Int32), .int (0 : Int32)] lkS_LW_156 (c_LW_call (m202, w) D204 r0 (3 : Int32) x11 (9 : Int32) (0 : Int32)) (by decide) (by omega) (by omega) rfl rfl (Nat.le_of_ble_eq_true rfl) d_LW_holds_354 (fun v205 D206 m207 => ?_)
                                    refine z_aload_n (pc := 357) d_LW_holds_357 rfl 0 rfl ?_
                                    refine z_iconst (pc := 358) d_LW_holds_358 ki_3 ?_
                                    refine z_iconst (pc := 359) d_LW_holds_359 ki_0 ?_
                                    refine z_bipush (pc := 360) d_LW_holds_360 kb_9 ?_
                                    refine z_iconst (pc := 362) d_LW_holds_362 ki_0 ?_
                                    refine z_callYA (pc := 363) (kc2 := (n90 * 15 + 739)) (ks2 := (n90 * 90 + 4434)) [.ref r0, .int (3 : Int32), .int (0 : Int32), .int (9 : Int32), .int (0 : Int32)] lkS_LW_156 (c_LW_call (m207, w) D206 r0 (3 : Int32) (0 : Int32) (9 : Int32) (0 : Int32)) (by decide) (by omega) (by omega) rfl rfl (Nat.le_of_ble_eq_true rfl) d_LW_holds_363 (fun v208 D209 m210 => ?_)
                                    refine z_icmp_gt (pc := 366) (tgt := 419) d_LW_holds_366 (by decide) ?_ ?_
                                    · refine z_kc (by omega) (by omega) (z_sub [0, 1, 2, 3, 4, 5, 6, 7, 8, 9, 10] rfl (h419 x2 x3 x4 x5 x7 x8 x9 x10 x11 m210 D209))
                                    · refine z_kc (by omega) (by omega) (z_sub [0, 1, 2, 3, 4, 5, 6, 7, 8, 9, 10, 11] rfl (h369 x2 x3 x4 x5 x7 x8 x9 x10 x11 x13 m210 D209))
                                  · refine z_aload_n (pc := 322) d_LW_holds_322 rfl 0 rfl ?_
                                    refine z_iconst (pc := 323) d_LW_holds_323 ki_3 ?_
                                    refine z_iload (pc := 324) d_LW_holds_324 10 rfl ?_
                                    refine z_bipush (pc := 326) d_LW_holds_326 kb_9 ?_
                                    refine z_iconst (pc := 328) d_LW_holds_328 ki_0 ?_
                                    refine z_callYA (pc := 329) (kc2 := (n90 * 15 + 740)) (ks2 := (n90 * 90 + 4440)) [.ref r0, .int (3 : Int32), .int x11, .int (9 : Int32), .int (0 : Int32)] lkS_LW_156 (c_LW_call (m202, w) D204 r0 (3 : Int32) x11 (9 : Int32) (0 : Int32)) (by decide) (by omega) (by omega) rfl rfl (Nat.le_of_ble_eq_true rfl) d_LW_holds_329 (fun v211 D212 m213 => ?_)
                                    refine z_aload_n (pc := 332) d_LW_holds_332 rfl 0 rfl ?_
                                    refine z_iconst (pc := 333) d_LW_holds_333 ki_3 ?_
                                    refine z_iconst (pc := 334) d_LW_holds_334 ki_0 ?_
                                    refine z_bipush (pc := 335) d_LW_holds_335 kb_9 ?_
                                    refine z_iconst (pc := 337) d_LW_holds_337 ki_0 ?_
                                    refine z_callYA (pc := 338) (kc2 := (n90 * 15 + 739)) (ks2 := (n90 * 90 + 4434)) [.ref r0, .int (3 : Int32), .int (0 : Int32), .int (9 : Int32), .int (0 : Int32)] lkS_LW_156 (c_LW_call (m213, w) D212 r0 (3 : Int32) (0 : Int32) (9 : Int32) (0 : Int32)) (by decide) (by omega) (by omega) rfl rfl (Nat.le_of_ble_eq_true rfl) d_LW_holds_338 (fun v214 D215 m216 => ?_)
                                    refine z_icmp_lt (pc := 341) (tgt := 419) d_LW_holds_341 (by decide) ?_ ?_
                                    · refine z_kc (by omega) (by omega) (z_sub [0, 1, 2, 3, 4, 5, 6, 7, 8, 9, 10] rfl (h419 x2 x3 x4 x5 x7 x8 x9 x10 x11 m216 D215))
                                    · refine z_goto (pc := 344) (tgt := 369) d_LW_holds_344 (by decide) ?_
                                      refine z_kc (by omega) (by omega) (z_sub [0, 1, 2, 3, 4, 5, 6, 7, 8, 9, 10, 11] rfl (h369 x2 x3 x4 x5 x7 x8 x9 x10 x11 x13 m216 D215))
                              · refine z_aload_n (pc := 267) d_LW_holds_267 rfl 0 rfl ?_
                                refine z_iconst (pc := 268) d_LW_holds_268 ki_3 ?_
                                refine z_iload (pc := 269) d_LW_holds_269 10 rfl ?_
                                refine z_bipush (pc := 271) d_LW_holds_271 kb_9 ?_
                                refine z_iconst (pc := 273) d_LW_holds_273 ki_0 ?_
                                refine z_callYA (pc := 274) (kc2 := (n90 * 15 + 744)) (ks2 := (n90 * 90 + 4464)) [.ref r0, .int (3 : Int32), .int x11, .int (9 : Int32), .int (0 : Int32)] lkS_LW_156 (c_LW_call (m181, w) D180 r0 (3 : Int32) x11 (9 : Int32) (0 : Int32)) (by decide) (by omega) (by omega) rfl rfl (Nat.le_of_ble_eq_true rfl) d_LW_holds_274 (fun v217 D218 m219 => ?_)
                                refine z_if_eq (pc := 277) (tgt := 296) d_LW_holds_277 (by decide) ?_ ?_
                                · refine z_kc (by omega) (by omega) (z_sub [0, 1, 2, 3, 4, 5, 6, 7, 8, 9, 10, 11] rfl (h296 x2 x3 x4 x5 x7 x8 x9 x10 x11 x13 m219 D218))
                                · refine z_aload_n (pc := 280) d_LW_holds_280 rfl 0 rfl ?_
                                  refine z_iconst (pc := 281) d_LW_holds_281 ki_3 ?_
                                  refine z_iload (pc := 282) d_LW_holds_282 10 rfl ?_
                                  refine z_iconst (pc := 284) d_LW_holds_284 ki_3 ?_
                                  refine z_iconst (pc := 285) d_LW_holds_285 ki_0 ?_
                                  refine z_callYA (pc := 286) (kc2 := (n90 * 15 + 743)) (ks2 := (n90 * 90 + 4458)) [.ref r0, .int (3 : Int32), .int x11, .int (3 : Int32), .int (0 : Int32)] lkS_LW_156 (c_LW_call (m219, w) D218 r0 (3 : Int32) x11 (3 : Int32) (0 : Int32)) (by decide) (by omega) (by omega) rfl rfl (Nat.le_of_ble_eq_true rfl) d_LW_holds_286 (fun v220 D221 m222 => ?_)
                                  refine z_callSi (pc := 289) [.int v220] lkS_LW_185 (c_LW_size (m222, w) D221 v220) (by decide) rfl rfl (Nat.le_of_ble_eq_true rfl) d_LW_holds_289 (fun v223 D224 => ?_)
                                  refine z_iconst (pc := 292) d_LW_holds_292 ki_1 ?_
                                  refine z_icmp_le (pc := 293) (tgt := 419) d_LW_holds_293 (by decide) ?_ ?_
                                  · refine z_kc (by omega) (by omega) (z_sub [0, 1, 2, 3, 4, 5, 6, 7, 8, 9, 10] rfl (h419 x2 x3 x4 x5 x7 x8 x9 x10 x11 m222 D224))
                                  · refine z_kc (by omega) (by omega) (z_sub [0, 1, 2, 3, 4, 5, 6, 7, 8, 9, 10, 11] rfl (h296 x2 x3 x4 x5 x7 x8 x9 x10 x11 x13 m222 D224))
                            · refine z_iload (pc := 244) d_LW_holds_244 12 rfl ?_
                              refine z_iconst (pc := 246) d_LW_holds_246 ki_4 ?_
                              refine z_iload (pc := 247) d_LW_holds_247 11 rfl ?_
                              refine z_imul (pc := 249) d_LW_holds_249 ?_
                              refine z_icmp_ne (pc := 250) (tgt := 267) d_LW_holds_250 (by decide) ?_ ?_
                              · refine z_iload (pc := 253) d_LW_holds_253 13 rfl ?_
                                refine z_iload (pc := 255) d_LW_holds_255 11 rfl ?_
                                refine z_icmp_ne (pc := 257) (tgt := 419) d_LW_holds_257 (by decide) ?_ ?_
                                · refine z_iload (pc := 260) d_LW_holds_260 14 rfl ?_
                                  refine z_iload (pc := 262) d_LW_holds_262 11 rfl ?_
                                  refine z_icmp_ne (pc := 264) (tgt := 419) d_LW_holds_264 (by decide) ?_ ?_
                                  · refine z_kc (by omega) (by omega) (z_sub [0, 1, 2, 3, 4, 5, 6, 7, 8, 9, 10, 12] rfl (h267 x2 x3 x4 x5 x7 x8 x9 x10 x11 x13 m179 D178))
                                  · refine z_kc (by omega) (by omega) (z_sub [0, 1, 2, 3, 4, 5, 6, 7, 8, 9, 10] rfl (h419 x2 x3 x4 x5 x7 x8 x9 x10 x11 m179 D178))
                                · refine z_kc (by omega) (by omega) (z_sub [0, 1, 2, 3, 4, 5, 6, 7, 8, 9, 10] rfl (h419 x2 x3 x4 x5 x7 x8 x9 x10 x11 m179 D178))
                              · refine z_kc (by omega) (by omega) (z_sub [0, 1, 2, 3, 4, 5, 6, 7, 8, 9, 10, 12] rfl (h267 x2 x3 x4 x5 x7 x8 x9 x10 x11 x13 m179 D178))
                          · refine z_iload (pc := 223) d_LW_holds_223 12 rfl ?_
                            refine z_if_ne (pc := 225) (tgt := 244) d_LW_holds_225 (by decide) ?_ ?_
                            · refine z_iload (pc := 228) d_LW_holds_228 13 rfl ?_
                              refine z_iload (pc := 230) d_LW_holds_230 11 rfl ?_
                              refine z_ineg (pc := 232) d_LW_holds_232 ?_
                              refine z_icmp_ne (pc := 233) (tgt := 419) d_LW_holds_233 (by decide) ?_ ?_
                              · refine z_iload (pc := 236) d_LW_holds_236 14 rfl ?_
                                refine z_iload (pc := 238) d_LW_holds_238 11 rfl ?_
                                refine z_ineg (pc := 240) d_LW_holds_240 ?_
                                refine z_icmp_ne (pc := 241) (tgt := 419) d_LW_holds_241 (by decide) ?_ ?_
                                · refine z_kc (by omega) (by omega) (z_sub [0, 1, 2, 3, 4, 5, 6, 7, 8, 9, 10, 11, 12, 13, 14] rfl (h244 x2 x3 x4 x5 x7 x8 x9 x10 x11 x12 x13 x14 x15 m177 D176))
                                · refine z_kc (by omega) (by omega) (z_sub [0, 1, 2, 3, 4, 5, 6, 7, 8, 9, 10] rfl (h419 x2 x3 x4 x5 x7 x8 x9 x10 x11 m177 D176))
                              · refine z_kc (by omega) (by omega) (z_sub [0, 1, 2, 3, 4, 5, 6, 7, 8, 9, 10] rfl (h419 x2 x3 x4 x5 x7 x8 x9 x10 x11 m177 D176))
                            · refine z_kc (by omega) (by omega) (z_sub [0, 1, 2, 3, 4, 5, 6, 7, 8, 9, 10, 11, 12, 13, 14] rfl (h244 x2 x3 x4 x5 x7 x8 x9 x10 x11 x12 x13 x14 x15 m177 D176))
                        · refine z_iload (pc := 203) d_LW_holds_203 1 rfl ?_
                          refine z_callSi (pc := 205) [.int v164] lkS_LW_185 (c_LW_size (m170, w) D175 v164) (by decide) rfl rfl (Nat.le_of_ble_eq_true rfl) d_LW_holds_205 (fun v225 D226 => ?_)
                          refine z_iload (pc := 208) d_LW_holds_208 3 rfl ?_
                          refine z_icmp_eq (pc := 210) (tgt := 223) d_LW_holds_210 (by decide) ?_ ?_
                          · refine z_kc (by omega) (by omega) (z_sub [4, 5, 6, 7, 8, 9, 11, 12, 13, 14, 15, 3, 2, 1, 0] rfl (h223 x2 x3 x4 x5 x7 x8 x9 x10 x11 v152 v155 v164 v171 m170 D226))
                          · refine z_iload (pc := 213) d_LW_holds_213 0 rfl ?_
                            refine z_callSi (pc := 215) [.int v171] lkS_LW_185 (c_LW_size (m170, w) D226 v171) (by decide) rfl rfl (Nat.le_of_ble_eq_true rfl) d_LW_holds_215 (fun v227 D228 => ?_)
                            refine z_iload (pc := 218) d_LW_holds_218 3 rfl ?_
                            refine z_icmp_ne (pc := 220) (tgt := 419) d_LW_holds_220 (by decide) ?_ ?_
                            · refine z_kc (by omega) (by omega) (z_sub [4, 5, 6, 7, 8, 9, 11, 12, 13, 14, 15, 3, 2, 1, 0] rfl (h223 x2 x3 x4 x5 x7 x8 x9 x10 x11 v152 v155 v164 v171 m170 D228))
                            · refine z_kc (by omega) (by omega) (z_sub [4, 5, 6, 7, 8, 9, 11, 12, 13, 14, 15] rfl (h419 x2 x3 x4 x5 x7 x8 x9 x10 x11 m170 D228))
    · refine z_istore (pc := 73) d_LW_holds_73 (by decide) (lv' := [(6, .int s0), (0, .ref r0), (1, .int x1), (2, .int x2), (3, .int x3), (4, .int x4), (5, .int x5)]) rfl ?_
      refine z_iconst (pc := 75) d_LW_holds_75 ki_0 ?_
      refine z_istore (pc := 76) d_LW_holds_76 (by decide) (lv' := [(7, .int (0 : Int32)), (6, .int s0), (0, .ref r0), (1, .int x1), (2, .int x2), (3, .int x3), (4, .int x4), (5, .int x5)]) rfl ?_
      refine z_iconst (pc := 78) d_LW_holds_78 ki_0 ?_
      refine z_istore (pc := 79) d_LW_holds_79 (by decide) (lv' := [(8, .int (0 : Int32)), (7, .int (0 : Int32)), (6, .int s0), (0, .ref r0), (1, .int x1), (2, .int x2), (3, .int x3), (4, .int x4), (5, .int x5)]) rfl ?_
      refine z_iconst (pc := 81) d_LW_holds_81 ki_0 ?_
      refine z_istore (pc := 82) d_LW_holds_82 (by decide) (lv' := [(9, .int (0 : Int32)), (8, .int (0 : Int32)), (7, .int (0 : Int32)), (6, .int s0), (0, .ref r0), (1, .int x1), (2, .int x2), (3, .int x3), (4, .int x4), (5, .int x5)]) rfl ?_
      refine z_iconst (pc := 84) d_LW_holds_84 ki_0 ?_
      refine z_istore (pc := 85) d_LW_holds_85 (by decide) (lv' := [(10, .int (0 : Int32)), (9, .int (0 : Int32)), (8, .int (0 : Int32)), (7, .int (0 : Int32)), (6, .int s0), (0, .ref r0), (1, .int x1), (2, .int x2), (3, .int x3), (4, .int x4), (5, .int x5)]) rfl ?_
      refine z_iconst (pc := 87) d_LW_holds_87 ki_0 ?_
      refine z_istore (pc := 88) d_LW_holds_88 (by decide) (lv' := [(11, .int (0 : Int32)), (10, .int (0 : Int32)), (9, .int (0 : Int32)), (8, .int (0 : Int32)), (7, .int (0 : Int32)), (6, .int s0), (0, .ref r0), (1, .int x1), (2, .int x2), (3, .int x3), (4, .int x4), (5, .int x5)]) rfl ?_
      refine z_kc (by omega) (by omega) (z_sub [6, 7, 8, 9, 10, 11, 5, 4, 3, 2, 1, 0] rfl (h90 x2 x3 x4 x5 s0 (0 : Int32) (0 : Int32) (0 : Int32) (0 : Int32) (0 : Int32) m2 D1))
  · refine z_jp (fun j72 : Int32 → Int32 → Int32 → Int32 → zD → Option (Int32 × zD) => ∀ (x2 : Int32) (x3 : Int32) (x4 : Int32) (x5 : Int32) (m230 : Nat) (D229 : zD), zGO K Y_LW_holds 11 831 4986 (zqY w) (j72 x2 x3 x4 x5 D229) 826 4956 (m230, w) D229 72 [(0, .ref r0), (1, .int x1), (2, .int x2), (3, .int x3), (4, .int x4), (5, .int x5)] []) (fun x2 x3 x4 x5 m230 D229 => ?_) (fun j72 h72 => ?_)
    · refine z_iconst (pc := 72) d_LW_holds_72 ki_0 ?_
      refine z_kc (by omega) (by omega) (z_sub [0, 1, 2, 3, 4, 5] rfl (h73 x2 x3 x4 x5 (0 : Int32) m230 D229))
    · refine z_aload_n (pc := 0) d_LW_holds_0 rfl 0 rfl ?_
      refine z_iconst (pc := 1) d_LW_holds_1 ki_2 ?_
      refine z_iconst (pc := 2) d_LW_holds_2 ki_0 ?_
      refine z_iconst (pc := 3) d_LW_holds_3 ki_0 ?_
      refine z_iconst (pc := 4) d_LW_holds_4 ki_0 ?_
      refine z_callYA (pc := 5) (kc2 := 830) (ks2 := 4980) [.ref r0, .int (2 : Int32), .int (0 : Int32), .int (0 : Int32), .int (0 : Int32)] lkS_LW_156 (c_LW_call (n0, w) D r0 (2 : Int32) (0 : Int32) (0 : Int32) (0 : Int32)) (by decide) (by omega) (by omega) rfl rfl (Nat.le_of_ble_eq_true rfl) d_LW_holds_5 (fun v231 D232 m233 => ?_)
      refine z_istore_n (pc := 8) d_LW_holds_8 rfl (by decide) (lv' := [(2, .int v231), (0, .ref r0), (1, .int x1)]) rfl ?_
      refine z_aload_n (pc := 9) d_LW_holds_9 rfl 1 rfl ?_
      refine z_iconst (pc := 10) d_LW_holds_10 ki_2 ?_
      refine z_iconst (pc := 11) d_LW_holds_11 ki_1 ?_
      refine z_iconst (pc := 12) d_LW_holds_12 ki_0 ?_
      refine z_iconst (pc := 13) d_LW_holds_13 ki_0 ?_
      refine z_callYA (pc := 14) (kc2 := 829) (ks2 := 4974) [.ref r0, .int (2 : Int32), .int (1 : Int32), .int (0 : Int32), .int (0 : Int32)] lkS_LW_156 (c_LW_call (m233, w) D232 r0 (2 : Int32) (1 : Int32) (0 : Int32) (0 : Int32)) (by decide) (by omega) (by omega) rfl rfl (Nat.le_of_ble_eq_true rfl) d_LW_holds_14 (fun v234 D235 m236 => ?_)
      refine z_istore_n (pc := 17) d_LW_holds_17 rfl (by decide) (lv' := [(3, .int v234), (2, .int v231), (0, .ref r0), (1, .int x1)]) rfl ?_
      refine z_aload_n (pc := 18) d_LW_holds_18 rfl 2 rfl ?_
      refine z_iconst (pc := 19) d_LW_holds_19 ki_2 ?_
      refine z_iconst (pc := 20) d_LW_holds_20 ki_4 ?_
      refine z_iconst (pc := 21) d_LW_holds_21 ki_0 ?_
      refine z_iconst (pc := 22) d_LW_holds_22 ki_0 ?_
      refine z_callYA (pc := 23) (kc2 := 828) (ks2 := 4968) [.ref r0, .int (2 : Int32), .int (4 : Int32), .int (0 : Int32), .int (0 : Int32)] lkS_LW_156 (c_LW_call (m236, w) D235 r0 (2 : Int32) (4 : Int32) (0 : Int32) (0 : Int32)) (by decide) (by omega) (by omega) rfl rfl (Nat.le_of_ble_eq_true rfl) d_LW_holds_23 (fun v237 D238 m239 => ?_)
      refine z_istore (pc := 26) d_LW_holds_26 (by decide) (lv' := [(4, .int v237), (3, .int v234), (2, .int v231), (0, .ref r0), (1, .int x1)]) rfl ?_
      refine z_aload_n (pc := 28) d_LW_holds_28 rfl 3 rfl ?_
      refine z_iconst (pc := 29) d_LW_holds_29 ki_2 ?_
      refine z_iconst (pc := 30) d_LW_holds_30 ki_3 ?_
      refine z_iconst (pc := 31) d_LW_holds_31 ki_0 ?_
      refine z_iconst (pc := 32) d_LW_holds_32 ki_0 ?_
      refine z_callYA (pc := 33) (kc2 := 827) (ks2 := 4962) [.ref r0, .int (2 : Int32), .int (3 : Int32), .int (0 : Int32), .int (0 : Int32)] lkS_LW_156 (c_LW_call (m239, w) D238 r0 (2 : Int32) (3 : Int32) (0 : Int32) (0 : Int32)) (by decide) (by omega) (by omega) rfl rfl (Nat.le_of_ble_eq_true rfl) d_LW_holds_33 (fun v240 D241 m242 => ?_)
      refine z_istore (pc := 36) d_LW_holds_36 (by decide) (lv' := [(5, .int v240), (4, .int v237), (3, .int v234), (2, .int v231), (0, .ref r0), (1, .int x1)]) rfl ?_
      refine z_iload_n (pc := 38) d_LW_holds_38 rfl 3 rfl ?_
      refine z_iconst (pc := 39) d_LW_holds_39 ki_4 ?_
      refine z_icmp_gt (pc := 40) (tgt := 72) d_LW_holds_40 (by decide) ?_ ?_
      · refine z_kc (by omega) (by omega) (z_sub [4, 5, 3, 2, 1, 0] rfl (h72 v231 v234 v237 v240 m242 D241))
      · refine z_iload_n (pc := 43) d_LW_holds_43 rfl 2 rfl ?_
        refine z_iconst (pc := 44) d_LW_holds_44 ki_4 ?_
        refine z_icmp_gt (pc := 45) (tgt := 72) d_LW_holds_45 (by decide) ?_ ?_
        · refine z_kc (by omega) (by omega) (z_sub [4, 5, 3, 2, 1, 0] rfl (h72 v231 v234 v237 v240 m242 D241))
        · refine z_iload (pc := 48) d_LW_holds_48 1 rfl ?_
          refine z_bipush (pc := 50) d_LW_holds_50 kb_60 ?_
          refine z_icmp_gt (pc := 52) (tgt := 72) d_LW_holds_52 (by decide) ?_ ?_
          · refine z_kc (by omega) (by omega) (z_sub [4, 5, 3, 2, 1, 0] rfl (h72 v231 v234 v237 v240 m242 D241))
          · refine z_iload (pc := 55) d_LW_holds_55 1 rfl ?_
            refine z_aload_n (pc := 57) d_LW_holds_57 rfl 4 rfl ?_
            refine z_iconst (pc := 58) d_LW_holds_58 ki_2 ?_
            refine z_iconst (pc := 59) d_LW_holds_59 ki_5 ?_
            refine z_iconst (pc := 60) d_LW_holds_60 ki_0 ?_
            refine z_iconst (pc := 61) d_LW_holds_61 ki_0 ?_
            refine z_callYA (pc := 62) (kc2 := 826) (ks2 := 4956) [.ref r0, .int (2 : Int32), .int (5 : Int32), .int (0 : Int32), .int (0 : Int32)] lkS_LW_156 (c_LW_call (m242, w) D241 r0 (2 : Int32) (5 : Int32) (0 : Int32) (0 : Int32)) (by decide) (by omega) (by omega) rfl rfl (Nat.le_of_ble_eq_true rfl) d_LW_holds_62 (fun v243 D244 m245 => ?_)
            refine z_icmp_gt (pc := 65) (tgt := 72) d_LW_holds_65 (by decide) ?_ ?_
            · refine z_kc (by omega) (by omega) (z_sub [4, 5, 3, 2, 1, 0] rfl (h72 v231 v234 v237 v240 m245 D244))
            · refine z_iconst (pc := 68) d_LW_holds_68 ki_1 ?_
              refine z_goto (pc := 69) (tgt := 73) d_LW_holds_69 (by decide) ?_
              refine z_kc (by omega) (by omega) (z_sub [4, 5, 3, 2, 1, 0] rfl (h73 v231 v234 v237 v240 (1 : Int32) m245 D244))
