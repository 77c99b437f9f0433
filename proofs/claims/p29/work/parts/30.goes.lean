def Y_LW_goes : zY := (⟨"SirenFairLaw", "goes", "(LSirenFair;LSirenFair;I)Z"⟩, method_36_code, 14, some .boolean, [])
theorem w_c_LW_waits : Cond.code Y_LW_waits.1 Y_LW_waits.2.1 Y_LW_waits.2.2.1 Y_LW_waits.2.2.2.1 ∈ zWd := zin 961 (by decide +kernel) rfl
theorem lk_LW_waits : zlk Y_LW_waits 3 := ⟨w_c_LW_waits, w_ini_LW, by decide +kernel, by decide +kernel, by decide⟩
theorem w_ml_LW_223 : Cond.methodLink "SirenFairLaw" 223 Y_LW_waits.1 ∈ zWd := zin 959 (by decide +kernel) rfl
theorem w_st_LW_waits : Cond.static Y_LW_waits.1 ∈ zWd := zin 960 (by decide +kernel) rfl
theorem lkS_LW_223 : zlkS "SirenFairLaw" 223 Y_LW_waits 3 := ⟨lk_LW_waits, w_ml_LW_223, w_st_LW_waits⟩
theorem w_c_LW_undoes : Cond.code Y_LW_undoes.1 Y_LW_undoes.2.1 Y_LW_undoes.2.2.1 Y_LW_undoes.2.2.2.1 ∈ zWd := zin 964 (by decide +kernel) rfl
theorem lk_LW_undoes : zlk Y_LW_undoes 3 := ⟨w_c_LW_undoes, w_ini_LW, by decide +kernel, by decide +kernel, by decide⟩
theorem w_ml_LW_226 : Cond.methodLink "SirenFairLaw" 226 Y_LW_undoes.1 ∈ zWd := zin 962 (by decide +kernel) rfl
theorem w_st_LW_undoes : Cond.static Y_LW_undoes.1 ∈ zWd := zin 963 (by decide +kernel) rfl
theorem lkS_LW_226 : zlkS "SirenFairLaw" 226 Y_LW_undoes 3 := ⟨lk_LW_undoes, w_ml_LW_226, w_st_LW_undoes⟩
theorem d_LW_goes_0 : decode Y_LW_goes.2.1 0 = .ok (.iload_n 2, 1) := by decide +kernel
theorem d_LW_goes_1 : decode Y_LW_goes.2.1 1 = .ok (.aload_n 0, 1) := by decide +kernel
theorem d_LW_goes_2 : decode Y_LW_goes.2.1 2 = .ok (.iconst (2), 1) := by decide +kernel
theorem d_LW_goes_3 : decode Y_LW_goes.2.1 3 = .ok (.iconst (1), 1) := by decide +kernel
theorem d_LW_goes_4 : decode Y_LW_goes.2.1 4 = .ok (.iconst (0), 1) := by decide +kernel
theorem d_LW_goes_5 : decode Y_LW_goes.2.1 5 = .ok (.iconst (0), 1) := by decide +kernel
theorem d_LW_goes_6 : decode Y_LW_goes.2.1 6 = .ok (.invokestatic 156, 3) := by decide +kernel
theorem d_LW_goes_9 : decode Y_LW_goes.2.1 9 = .ok (.irem, 1) := by decide +kernel
theorem d_LW_goes_10 : decode Y_LW_goes.2.1 10 = .ok (.istore_n 3, 1) := by decide +kernel
theorem d_LW_goes_11 : decode Y_LW_goes.2.1 11 = .ok (.iload_n 2, 1) := by decide +kernel
theorem d_LW_goes_12 : decode Y_LW_goes.2.1 12 = .ok (.iconst (4), 1) := by decide +kernel
theorem d_LW_goes_13 : decode Y_LW_goes.2.1 13 = .ok (.idiv, 1) := by decide +kernel
theorem d_LW_goes_14 : decode Y_LW_goes.2.1 14 = .ok (.aload_n 0, 1) := by decide +kernel
theorem d_LW_goes_15 : decode Y_LW_goes.2.1 15 = .ok (.iconst (2), 1) := by decide +kernel
theorem d_LW_goes_16 : decode Y_LW_goes.2.1 16 = .ok (.iconst (0), 1) := by decide +kernel
theorem d_LW_goes_17 : decode Y_LW_goes.2.1 17 = .ok (.iconst (0), 1) := by decide +kernel
theorem d_LW_goes_18 : decode Y_LW_goes.2.1 18 = .ok (.iconst (0), 1) := by decide +kernel
theorem d_LW_goes_19 : decode Y_LW_goes.2.1 19 = .ok (.invokestatic 156, 3) := by decide +kernel
theorem d_LW_goes_22 : decode Y_LW_goes.2.1 22 = .ok (.irem, 1) := by decide +kernel
theorem d_LW_goes_23 : decode Y_LW_goes.2.1 23 = .ok (.istore 4, 2) := by decide +kernel
theorem d_LW_goes_25 : decode Y_LW_goes.2.1 25 = .ok (.aload_n 0, 1) := by decide +kernel
theorem d_LW_goes_26 : decode Y_LW_goes.2.1 26 = .ok (.bipush (13), 2) := by decide +kernel
theorem d_LW_goes_28 : decode Y_LW_goes.2.1 28 = .ok (.iload_n 3, 1) := by decide +kernel
theorem d_LW_goes_29 : decode Y_LW_goes.2.1 29 = .ok (.iload 4, 2) := by decide +kernel
theorem d_LW_goes_31 : decode Y_LW_goes.2.1 31 = .ok (.iconst (0), 1) := by decide +kernel
theorem d_LW_goes_32 : decode Y_LW_goes.2.1 32 = .ok (.invokestatic 156, 3) := by decide +kernel
theorem d_LW_goes_35 : decode Y_LW_goes.2.1 35 = .ok (.istore 5, 2) := by decide +kernel
theorem d_LW_goes_37 : decode Y_LW_goes.2.1 37 = .ok (.aload_n 0, 1) := by decide +kernel
theorem d_LW_goes_38 : decode Y_LW_goes.2.1 38 = .ok (.bipush (7), 2) := by decide +kernel
theorem d_LW_goes_40 : decode Y_LW_goes.2.1 40 = .ok (.iload_n 3, 1) := by decide +kernel
theorem d_LW_goes_41 : decode Y_LW_goes.2.1 41 = .ok (.iload 4, 2) := by decide +kernel
theorem d_LW_goes_43 : decode Y_LW_goes.2.1 43 = .ok (.iconst (0), 1) := by decide +kernel
theorem d_LW_goes_44 : decode Y_LW_goes.2.1 44 = .ok (.invokestatic 156, 3) := by decide +kernel
theorem d_LW_goes_47 : decode Y_LW_goes.2.1 47 = .ok (.istore 6, 2) := by decide +kernel
theorem d_LW_goes_49 : decode Y_LW_goes.2.1 49 = .ok (.iload 5, 2) := by decide +kernel
theorem d_LW_goes_51 : decode Y_LW_goes.2.1 51 = .ok (.iconst (-1), 1) := by decide +kernel
theorem d_LW_goes_52 : decode Y_LW_goes.2.1 52 = .ok (.if_icmp .ne (9), 3) := by decide +kernel
theorem d_LW_goes_55 : decode Y_LW_goes.2.1 55 = .ok (.sipush (200), 3) := by decide +kernel
theorem d_LW_goes_58 : decode Y_LW_goes.2.1 58 = .ok (.goto (5), 3) := by decide +kernel
theorem d_LW_goes_61 : decode Y_LW_goes.2.1 61 = .ok (.iload 5, 2) := by decide +kernel
theorem d_LW_goes_63 : decode Y_LW_goes.2.1 63 = .ok (.istore 7, 2) := by decide +kernel
theorem d_LW_goes_65 : decode Y_LW_goes.2.1 65 = .ok (.aload_n 0, 1) := by decide +kernel
theorem d_LW_goes_66 : decode Y_LW_goes.2.1 66 = .ok (.bipush (12), 2) := by decide +kernel
theorem d_LW_goes_68 : decode Y_LW_goes.2.1 68 = .ok (.iload 4, 2) := by decide +kernel
theorem d_LW_goes_70 : decode Y_LW_goes.2.1 70 = .ok (.iload 7, 2) := by decide +kernel
theorem d_LW_goes_72 : decode Y_LW_goes.2.1 72 = .ok (.iconst (1), 1) := by decide +kernel
theorem d_LW_goes_73 : decode Y_LW_goes.2.1 73 = .ok (.invokestatic 156, 3) := by decide +kernel
theorem d_LW_goes_76 : decode Y_LW_goes.2.1 76 = .ok (.istore 8, 2) := by decide +kernel
theorem d_LW_goes_78 : decode Y_LW_goes.2.1 78 = .ok (.aload_n 0, 1) := by decide +kernel
theorem d_LW_goes_79 : decode Y_LW_goes.2.1 79 = .ok (.iconst (2), 1) := by decide +kernel
theorem d_LW_goes_80 : decode Y_LW_goes.2.1 80 = .ok (.bipush (6), 2) := by decide +kernel
theorem d_LW_goes_82 : decode Y_LW_goes.2.1 82 = .ok (.iconst (0), 1) := by decide +kernel
theorem d_LW_goes_83 : decode Y_LW_goes.2.1 83 = .ok (.iconst (0), 1) := by decide +kernel
theorem d_LW_goes_84 : decode Y_LW_goes.2.1 84 = .ok (.invokestatic 156, 3) := by decide +kernel
theorem d_LW_goes_87 : decode Y_LW_goes.2.1 87 = .ok (.aload_n 0, 1) := by decide +kernel
theorem d_LW_goes_88 : decode Y_LW_goes.2.1 88 = .ok (.iconst (2), 1) := by decide +kernel
theorem d_LW_goes_89 : decode Y_LW_goes.2.1 89 = .ok (.bipush (7), 2) := by decide +kernel
theorem d_LW_goes_91 : decode Y_LW_goes.2.1 91 = .ok (.iconst (0), 1) := by decide +kernel
theorem d_LW_goes_92 : decode Y_LW_goes.2.1 92 = .ok (.iconst (0), 1) := by decide +kernel
theorem d_LW_goes_93 : decode Y_LW_goes.2.1 93 = .ok (.invokestatic 156, 3) := by decide +kernel
theorem d_LW_goes_96 : decode Y_LW_goes.2.1 96 = .ok (.iadd, 1) := by decide +kernel
theorem d_LW_goes_97 : decode Y_LW_goes.2.1 97 = .ok (.istore 9, 2) := by decide +kernel
theorem d_LW_goes_99 : decode Y_LW_goes.2.1 99 = .ok (.aload_n 0, 1) := by decide +kernel
theorem d_LW_goes_100 : decode Y_LW_goes.2.1 100 = .ok (.aload_n 1, 1) := by decide +kernel
theorem d_LW_goes_101 : decode Y_LW_goes.2.1 101 = .ok (.iload 7, 2) := by decide +kernel
theorem d_LW_goes_103 : decode Y_LW_goes.2.1 103 = .ok (.invokestatic 223, 3) := by decide +kernel
theorem d_LW_goes_106 : decode Y_LW_goes.2.1 106 = .ok (.ifCond .eq (66), 3) := by decide +kernel
theorem d_LW_goes_109 : decode Y_LW_goes.2.1 109 = .ok (.aload_n 0, 1) := by decide +kernel
theorem d_LW_goes_110 : decode Y_LW_goes.2.1 110 = .ok (.bipush (7), 2) := by decide +kernel
theorem d_LW_goes_112 : decode Y_LW_goes.2.1 112 = .ok (.iload_n 3, 1) := by decide +kernel
theorem d_LW_goes_113 : decode Y_LW_goes.2.1 113 = .ok (.iload 4, 2) := by decide +kernel
theorem d_LW_goes_115 : decode Y_LW_goes.2.1 115 = .ok (.iconst (0), 1) := by decide +kernel
theorem d_LW_goes_116 : decode Y_LW_goes.2.1 116 = .ok (.invokestatic 156, 3) := by decide +kernel
theorem d_LW_goes_119 : decode Y_LW_goes.2.1 119 = .ok (.iload 6, 2) := by decide +kernel
theorem d_LW_goes_121 : decode Y_LW_goes.2.1 121 = .ok (.if_icmp .le (7), 3) := by decide +kernel
theorem d_LW_goes_124 : decode Y_LW_goes.2.1 124 = .ok (.iconst (1), 1) := by decide +kernel
theorem d_LW_goes_125 : decode Y_LW_goes.2.1 125 = .ok (.goto (4), 3) := by decide +kernel
theorem d_LW_goes_128 : decode Y_LW_goes.2.1 128 = .ok (.iconst (0), 1) := by decide +kernel
theorem d_LW_goes_129 : decode Y_LW_goes.2.1 129 = .ok (.iload 5, 2) := by decide +kernel
theorem d_LW_goes_131 : decode Y_LW_goes.2.1 131 = .ok (.iconst (-1), 1) := by decide +kernel
theorem d_LW_goes_132 : decode Y_LW_goes.2.1 132 = .ok (.if_icmp .eq (7), 3) := by decide +kernel
theorem d_LW_goes_135 : decode Y_LW_goes.2.1 135 = .ok (.iconst (1), 1) := by decide +kernel
theorem d_LW_goes_136 : decode Y_LW_goes.2.1 136 = .ok (.goto (4), 3) := by decide +kernel
theorem d_LW_goes_139 : decode Y_LW_goes.2.1 139 = .ok (.iconst (0), 1) := by decide +kernel
theorem d_LW_goes_140 : decode Y_LW_goes.2.1 140 = .ok (.if_icmp .ne (32), 3) := by decide +kernel
theorem d_LW_goes_143 : decode Y_LW_goes.2.1 143 = .ok (.aload_n 0, 1) := by decide +kernel
theorem d_LW_goes_144 : decode Y_LW_goes.2.1 144 = .ok (.iconst (3), 1) := by decide +kernel
theorem d_LW_goes_145 : decode Y_LW_goes.2.1 145 = .ok (.iload 4, 2) := by decide +kernel
theorem d_LW_goes_147 : decode Y_LW_goes.2.1 147 = .ok (.bipush (6), 2) := by decide +kernel
theorem d_LW_goes_149 : decode Y_LW_goes.2.1 149 = .ok (.iconst (0), 1) := by decide +kernel
theorem d_LW_goes_150 : decode Y_LW_goes.2.1 150 = .ok (.invokestatic 156, 3) := by decide +kernel
theorem d_LW_goes_153 : decode Y_LW_goes.2.1 153 = .ok (.iload 8, 2) := by decide +kernel
theorem d_LW_goes_155 : decode Y_LW_goes.2.1 155 = .ok (.if_icmp .ne (17), 3) := by decide +kernel
theorem d_LW_goes_158 : decode Y_LW_goes.2.1 158 = .ok (.aload_n 0, 1) := by decide +kernel
theorem d_LW_goes_159 : decode Y_LW_goes.2.1 159 = .ok (.aload_n 1, 1) := by decide +kernel
theorem d_LW_goes_160 : decode Y_LW_goes.2.1 160 = .ok (.iload 7, 2) := by decide +kernel
theorem d_LW_goes_162 : decode Y_LW_goes.2.1 162 = .ok (.invokestatic 226, 3) := by decide +kernel
theorem d_LW_goes_165 : decode Y_LW_goes.2.1 165 = .ok (.ifCond .eq (7), 3) := by decide +kernel
theorem d_LW_goes_168 : decode Y_LW_goes.2.1 168 = .ok (.iconst (1), 1) := by decide +kernel
theorem d_LW_goes_169 : decode Y_LW_goes.2.1 169 = .ok (.goto (4), 3) := by decide +kernel
theorem d_LW_goes_172 : decode Y_LW_goes.2.1 172 = .ok (.iconst (0), 1) := by decide +kernel
theorem d_LW_goes_173 : decode Y_LW_goes.2.1 173 = .ok (.istore 10, 2) := by decide +kernel
theorem d_LW_goes_175 : decode Y_LW_goes.2.1 175 = .ok (.iload 7, 2) := by decide +kernel
theorem d_LW_goes_177 : decode Y_LW_goes.2.1 177 = .ok (.iconst (1), 1) := by decide +kernel
theorem d_LW_goes_178 : decode Y_LW_goes.2.1 178 = .ok (.if_icmp .le (54), 3) := by decide +kernel
theorem d_LW_goes_181 : decode Y_LW_goes.2.1 181 = .ok (.iload 10, 2) := by decide +kernel
theorem d_LW_goes_183 : decode Y_LW_goes.2.1 183 = .ok (.ifCond .eq (49), 3) := by decide +kernel
theorem d_LW_goes_186 : decode Y_LW_goes.2.1 186 = .ok (.aload_n 0, 1) := by decide +kernel
theorem d_LW_goes_187 : decode Y_LW_goes.2.1 187 = .ok (.aload_n 1, 1) := by decide +kernel
theorem d_LW_goes_188 : decode Y_LW_goes.2.1 188 = .ok (.iload 7, 2) := by decide +kernel
theorem d_LW_goes_190 : decode Y_LW_goes.2.1 190 = .ok (.iconst (1), 1) := by decide +kernel
theorem d_LW_goes_191 : decode Y_LW_goes.2.1 191 = .ok (.isub, 1) := by decide +kernel
theorem d_LW_goes_192 : decode Y_LW_goes.2.1 192 = .ok (.invokestatic 223, 3) := by decide +kernel
theorem d_LW_goes_195 : decode Y_LW_goes.2.1 195 = .ok (.ifCond .eq (34), 3) := by decide +kernel
theorem d_LW_goes_198 : decode Y_LW_goes.2.1 198 = .ok (.aload_n 0, 1) := by decide +kernel
theorem d_LW_goes_199 : decode Y_LW_goes.2.1 199 = .ok (.bipush (7), 2) := by decide +kernel
theorem d_LW_goes_201 : decode Y_LW_goes.2.1 201 = .ok (.iload_n 3, 1) := by decide +kernel
theorem d_LW_goes_202 : decode Y_LW_goes.2.1 202 = .ok (.iload 4, 2) := by decide +kernel
theorem d_LW_goes_204 : decode Y_LW_goes.2.1 204 = .ok (.iconst (0), 1) := by decide +kernel
theorem d_LW_goes_205 : decode Y_LW_goes.2.1 205 = .ok (.invokestatic 156, 3) := by decide +kernel
theorem d_LW_goes_208 : decode Y_LW_goes.2.1 208 = .ok (.iload 6, 2) := by decide +kernel
theorem d_LW_goes_210 : decode Y_LW_goes.2.1 210 = .ok (.if_icmp .ne (19), 3) := by decide +kernel
theorem d_LW_goes_213 : decode Y_LW_goes.2.1 213 = .ok (.aload_n 0, 1) := by decide +kernel
theorem d_LW_goes_214 : decode Y_LW_goes.2.1 214 = .ok (.aload_n 1, 1) := by decide +kernel
theorem d_LW_goes_215 : decode Y_LW_goes.2.1 215 = .ok (.iload 7, 2) := by decide +kernel
theorem d_LW_goes_217 : decode Y_LW_goes.2.1 217 = .ok (.iconst (1), 1) := by decide +kernel
theorem d_LW_goes_218 : decode Y_LW_goes.2.1 218 = .ok (.isub, 1) := by decide +kernel
theorem d_LW_goes_219 : decode Y_LW_goes.2.1 219 = .ok (.invokestatic 226, 3) := by decide +kernel
theorem d_LW_goes_222 : decode Y_LW_goes.2.1 222 = .ok (.ifCond .eq (7), 3) := by decide +kernel
theorem d_LW_goes_225 : decode Y_LW_goes.2.1 225 = .ok (.iconst (1), 1) := by decide +kernel
theorem d_LW_goes_226 : decode Y_LW_goes.2.1 226 = .ok (.goto (4), 3) := by decide +kernel
theorem d_LW_goes_229 : decode Y_LW_goes.2.1 229 = .ok (.iconst (0), 1) := by decide +kernel
theorem d_LW_goes_230 : decode Y_LW_goes.2.1 230 = .ok (.istore 10, 2) := by decide +kernel
theorem d_LW_goes_232 : decode Y_LW_goes.2.1 232 = .ok (.aload_n 0, 1) := by decide +kernel
theorem d_LW_goes_233 : decode Y_LW_goes.2.1 233 = .ok (.invokevirtual 188, 3) := by decide +kernel
theorem d_LW_goes_236 : decode Y_LW_goes.2.1 236 = .ok (.istore 11, 2) := by decide +kernel
theorem d_LW_goes_238 : decode Y_LW_goes.2.1 238 = .ok (.aload_n 0, 1) := by decide +kernel
theorem d_LW_goes_239 : decode Y_LW_goes.2.1 239 = .ok (.iconst (2), 1) := by decide +kernel
theorem d_LW_goes_240 : decode Y_LW_goes.2.1 240 = .ok (.iconst (0), 1) := by decide +kernel
theorem d_LW_goes_241 : decode Y_LW_goes.2.1 241 = .ok (.iconst (0), 1) := by decide +kernel
theorem d_LW_goes_242 : decode Y_LW_goes.2.1 242 = .ok (.iconst (0), 1) := by decide +kernel
theorem d_LW_goes_243 : decode Y_LW_goes.2.1 243 = .ok (.invokestatic 156, 3) := by decide +kernel
theorem d_LW_goes_246 : decode Y_LW_goes.2.1 246 = .ok (.istore 12, 2) := by decide +kernel
theorem d_LW_goes_248 : decode Y_LW_goes.2.1 248 = .ok (.iconst (0), 1) := by decide +kernel
theorem d_LW_goes_249 : decode Y_LW_goes.2.1 249 = .ok (.istore 13, 2) := by decide +kernel
theorem d_LW_goes_251 : decode Y_LW_goes.2.1 251 = .ok (.iload 13, 2) := by decide +kernel
theorem d_LW_goes_253 : decode Y_LW_goes.2.1 253 = .ok (.iload 12, 2) := by decide +kernel
theorem d_LW_goes_255 : decode Y_LW_goes.2.1 255 = .ok (.if_icmp .ge (41), 3) := by decide +kernel
theorem d_LW_goes_258 : decode Y_LW_goes.2.1 258 = .ok (.iload 10, 2) := by decide +kernel
theorem d_LW_goes_260 : decode Y_LW_goes.2.1 260 = .ok (.ifCond .eq (36), 3) := by decide +kernel
theorem d_LW_goes_263 : decode Y_LW_goes.2.1 263 = .ok (.aload_n 0, 1) := by decide +kernel
theorem d_LW_goes_264 : decode Y_LW_goes.2.1 264 = .ok (.iload 13, 2) := by decide +kernel
theorem d_LW_goes_266 : decode Y_LW_goes.2.1 266 = .ok (.iconst (0), 1) := by decide +kernel
theorem d_LW_goes_267 : decode Y_LW_goes.2.1 267 = .ok (.invokestatic 171, 3) := by decide +kernel
theorem d_LW_goes_270 : decode Y_LW_goes.2.1 270 = .ok (.ifCond .lt (17), 3) := by decide +kernel
theorem d_LW_goes_273 : decode Y_LW_goes.2.1 273 = .ok (.aload_n 1, 1) := by decide +kernel
theorem d_LW_goes_274 : decode Y_LW_goes.2.1 274 = .ok (.iload 13, 2) := by decide +kernel
theorem d_LW_goes_276 : decode Y_LW_goes.2.1 276 = .ok (.iconst (0), 1) := by decide +kernel
theorem d_LW_goes_277 : decode Y_LW_goes.2.1 277 = .ok (.invokestatic 171, 3) := by decide +kernel
theorem d_LW_goes_280 : decode Y_LW_goes.2.1 280 = .ok (.ifCond .lt (7), 3) := by decide +kernel
theorem d_LW_goes_283 : decode Y_LW_goes.2.1 283 = .ok (.iconst (1), 1) := by decide +kernel
theorem d_LW_goes_284 : decode Y_LW_goes.2.1 284 = .ok (.goto (4), 3) := by decide +kernel
theorem d_LW_goes_287 : decode Y_LW_goes.2.1 287 = .ok (.iconst (0), 1) := by decide +kernel
theorem d_LW_goes_288 : decode Y_LW_goes.2.1 288 = .ok (.istore 10, 2) := by decide +kernel
theorem d_LW_goes_290 : decode Y_LW_goes.2.1 290 = .ok (.iinc 13 (1), 3) := by decide +kernel
theorem d_LW_goes_293 : decode Y_LW_goes.2.1 293 = .ok (.goto (-42), 3) := by decide +kernel
theorem d_LW_goes_296 : decode Y_LW_goes.2.1 296 = .ok (.iload 10, 2) := by decide +kernel
theorem d_LW_goes_298 : decode Y_LW_goes.2.1 298 = .ok (.ifCond .eq (45), 3) := by decide +kernel
theorem d_LW_goes_301 : decode Y_LW_goes.2.1 301 = .ok (.iload 11, 2) := by decide +kernel
theorem d_LW_goes_303 : decode Y_LW_goes.2.1 303 = .ok (.bipush (99), 2) := by decide +kernel
theorem d_LW_goes_305 : decode Y_LW_goes.2.1 305 = .ok (.if_icmp .gt (38), 3) := by decide +kernel
theorem d_LW_goes_308 : decode Y_LW_goes.2.1 308 = .ok (.aload_n 0, 1) := by decide +kernel
theorem d_LW_goes_309 : decode Y_LW_goes.2.1 309 = .ok (.aload_n 1, 1) := by decide +kernel
theorem d_LW_goes_310 : decode Y_LW_goes.2.1 310 = .ok (.iload 11, 2) := by decide +kernel
theorem d_LW_goes_312 : decode Y_LW_goes.2.1 312 = .ok (.invokestatic 223, 3) := by decide +kernel
theorem d_LW_goes_315 : decode Y_LW_goes.2.1 315 = .ok (.ifCond .eq (28), 3) := by decide +kernel
theorem d_LW_goes_318 : decode Y_LW_goes.2.1 318 = .ok (.aload_n 0, 1) := by decide +kernel
theorem d_LW_goes_319 : decode Y_LW_goes.2.1 319 = .ok (.iconst (2), 1) := by decide +kernel
theorem d_LW_goes_320 : decode Y_LW_goes.2.1 320 = .ok (.iconst (4), 1) := by decide +kernel
theorem d_LW_goes_321 : decode Y_LW_goes.2.1 321 = .ok (.iconst (0), 1) := by decide +kernel
theorem d_LW_goes_322 : decode Y_LW_goes.2.1 322 = .ok (.iconst (0), 1) := by decide +kernel
theorem d_LW_goes_323 : decode Y_LW_goes.2.1 323 = .ok (.invokestatic 156, 3) := by decide +kernel
theorem d_LW_goes_326 : decode Y_LW_goes.2.1 326 = .ok (.ifCond .ne (17), 3) := by decide +kernel
theorem d_LW_goes_329 : decode Y_LW_goes.2.1 329 = .ok (.aload_n 0, 1) := by decide +kernel
theorem d_LW_goes_330 : decode Y_LW_goes.2.1 330 = .ok (.aload_n 1, 1) := by decide +kernel
theorem d_LW_goes_331 : decode Y_LW_goes.2.1 331 = .ok (.iload 11, 2) := by decide +kernel
theorem d_LW_goes_333 : decode Y_LW_goes.2.1 333 = .ok (.invokestatic 226, 3) := by decide +kernel
theorem d_LW_goes_336 : decode Y_LW_goes.2.1 336 = .ok (.ifCond .eq (7), 3) := by decide +kernel
theorem d_LW_goes_339 : decode Y_LW_goes.2.1 339 = .ok (.iconst (1), 1) := by decide +kernel
theorem d_LW_goes_340 : decode Y_LW_goes.2.1 340 = .ok (.goto (4), 3) := by decide +kernel
theorem d_LW_goes_343 : decode Y_LW_goes.2.1 343 = .ok (.iconst (0), 1) := by decide +kernel
theorem d_LW_goes_344 : decode Y_LW_goes.2.1 344 = .ok (.istore 10, 2) := by decide +kernel
theorem d_LW_goes_346 : decode Y_LW_goes.2.1 346 = .ok (.iload 11, 2) := by decide +kernel
theorem d_LW_goes_348 : decode Y_LW_goes.2.1 348 = .ok (.iconst (1), 1) := by decide +kernel
theorem d_LW_goes_349 : decode Y_LW_goes.2.1 349 = .ok (.if_icmp .le (50), 3) := by decide +kernel
theorem d_LW_goes_352 : decode Y_LW_goes.2.1 352 = .ok (.iload 10, 2) := by decide +kernel
theorem d_LW_goes_354 : decode Y_LW_goes.2.1 354 = .ok (.ifCond .eq (45), 3) := by decide +kernel
theorem d_LW_goes_357 : decode Y_LW_goes.2.1 357 = .ok (.aload_n 0, 1) := by decide +kernel
theorem d_LW_goes_358 : decode Y_LW_goes.2.1 358 = .ok (.aload_n 1, 1) := by decide +kernel
theorem d_LW_goes_359 : decode Y_LW_goes.2.1 359 = .ok (.iload 11, 2) := by decide +kernel
theorem d_LW_goes_361 : decode Y_LW_goes.2.1 361 = .ok (.iconst (1), 1) := by decide +kernel
theorem d_LW_goes_362 : decode Y_LW_goes.2.1 362 = .ok (.isub, 1) := by decide +kernel
theorem d_LW_goes_363 : decode Y_LW_goes.2.1 363 = .ok (.invokestatic 223, 3) := by decide +kernel
theorem d_LW_goes_366 : decode Y_LW_goes.2.1 366 = .ok (.ifCond .eq (30), 3) := by decide +kernel
theorem d_LW_goes_369 : decode Y_LW_goes.2.1 369 = .ok (.aload_n 0, 1) := by decide +kernel
theorem d_LW_goes_370 : decode Y_LW_goes.2.1 370 = .ok (.iconst (2), 1) := by decide +kernel
theorem d_LW_goes_371 : decode Y_LW_goes.2.1 371 = .ok (.iconst (4), 1) := by decide +kernel
theorem d_LW_goes_372 : decode Y_LW_goes.2.1 372 = .ok (.iconst (0), 1) := by decide +kernel
theorem d_LW_goes_373 : decode Y_LW_goes.2.1 373 = .ok (.iconst (0), 1) := by decide +kernel
theorem d_LW_goes_374 : decode Y_LW_goes.2.1 374 = .ok (.invokestatic 156, 3) := by decide +kernel
theorem d_LW_goes_377 : decode Y_LW_goes.2.1 377 = .ok (.ifCond .le (19), 3) := by decide +kernel
theorem d_LW_goes_380 : decode Y_LW_goes.2.1 380 = .ok (.aload_n 0, 1) := by decide +kernel
theorem d_LW_goes_381 : decode Y_LW_goes.2.1 381 = .ok (.aload_n 1, 1) := by decide +kernel
theorem d_LW_goes_382 : decode Y_LW_goes.2.1 382 = .ok (.iload 11, 2) := by decide +kernel
theorem d_LW_goes_384 : decode Y_LW_goes.2.1 384 = .ok (.iconst (1), 1) := by decide +kernel
theorem d_LW_goes_385 : decode Y_LW_goes.2.1 385 = .ok (.isub, 1) := by decide +kernel
theorem d_LW_goes_386 : decode Y_LW_goes.2.1 386 = .ok (.invokestatic 226, 3) := by decide +kernel
theorem d_LW_goes_389 : decode Y_LW_goes.2.1 389 = .ok (.ifCond .eq (7), 3) := by decide +kernel
theorem d_LW_goes_392 : decode Y_LW_goes.2.1 392 = .ok (.iconst (1), 1) := by decide +kernel
theorem d_LW_goes_393 : decode Y_LW_goes.2.1 393 = .ok (.goto (4), 3) := by decide +kernel
theorem d_LW_goes_396 : decode Y_LW_goes.2.1 396 = .ok (.iconst (0), 1) := by decide +kernel
theorem d_LW_goes_397 : decode Y_LW_goes.2.1 397 = .ok (.istore 10, 2) := by decide +kernel
theorem d_LW_goes_399 : decode Y_LW_goes.2.1 399 = .ok (.iconst (0), 1) := by decide +kernel
theorem d_LW_goes_400 : decode Y_LW_goes.2.1 400 = .ok (.istore 13, 2) := by decide +kernel
theorem d_LW_goes_402 : decode Y_LW_goes.2.1 402 = .ok (.iload 13, 2) := by decide +kernel
theorem d_LW_goes_404 : decode Y_LW_goes.2.1 404 = .ok (.iload 12, 2) := by decide +kernel
theorem d_LW_goes_406 : decode Y_LW_goes.2.1 406 = .ok (.if_icmp .ge (51), 3) := by decide +kernel
theorem d_LW_goes_409 : decode Y_LW_goes.2.1 409 = .ok (.iload 10, 2) := by decide +kernel
theorem d_LW_goes_411 : decode Y_LW_goes.2.1 411 = .ok (.ifCond .eq (46), 3) := by decide +kernel
theorem d_LW_goes_414 : decode Y_LW_goes.2.1 414 = .ok (.aload_n 0, 1) := by decide +kernel
theorem d_LW_goes_415 : decode Y_LW_goes.2.1 415 = .ok (.bipush (11), 2) := by decide +kernel
theorem d_LW_goes_417 : decode Y_LW_goes.2.1 417 = .ok (.iconst (0), 1) := by decide +kernel
theorem d_LW_goes_418 : decode Y_LW_goes.2.1 418 = .ok (.iconst (0), 1) := by decide +kernel
theorem d_LW_goes_419 : decode Y_LW_goes.2.1 419 = .ok (.iconst (0), 1) := by decide +kernel
theorem d_LW_goes_420 : decode Y_LW_goes.2.1 420 = .ok (.invokestatic 156, 3) := by decide +kernel
theorem d_LW_goes_423 : decode Y_LW_goes.2.1 423 = .ok (.invokestatic 219, 3) := by decide +kernel
theorem d_LW_goes_426 : decode Y_LW_goes.2.1 426 = .ok (.ifCond .ne (22), 3) := by decide +kernel
theorem d_LW_goes_429 : decode Y_LW_goes.2.1 429 = .ok (.aload_n 1, 1) := by decide +kernel
theorem d_LW_goes_430 : decode Y_LW_goes.2.1 430 = .ok (.bipush (11), 2) := by decide +kernel
theorem d_LW_goes_432 : decode Y_LW_goes.2.1 432 = .ok (.iconst (0), 1) := by decide +kernel
theorem d_LW_goes_433 : decode Y_LW_goes.2.1 433 = .ok (.iconst (0), 1) := by decide +kernel
theorem d_LW_goes_434 : decode Y_LW_goes.2.1 434 = .ok (.iconst (0), 1) := by decide +kernel
theorem d_LW_goes_435 : decode Y_LW_goes.2.1 435 = .ok (.invokestatic 156, 3) := by decide +kernel
theorem d_LW_goes_438 : decode Y_LW_goes.2.1 438 = .ok (.invokestatic 219, 3) := by decide +kernel
theorem d_LW_goes_441 : decode Y_LW_goes.2.1 441 = .ok (.ifCond .ne (7), 3) := by decide +kernel
theorem d_LW_goes_444 : decode Y_LW_goes.2.1 444 = .ok (.iconst (1), 1) := by decide +kernel
theorem d_LW_goes_445 : decode Y_LW_goes.2.1 445 = .ok (.goto (4), 3) := by decide +kernel
theorem d_LW_goes_448 : decode Y_LW_goes.2.1 448 = .ok (.iconst (0), 1) := by decide +kernel
theorem d_LW_goes_449 : decode Y_LW_goes.2.1 449 = .ok (.istore 10, 2) := by decide +kernel
theorem d_LW_goes_451 : decode Y_LW_goes.2.1 451 = .ok (.iinc 13 (1), 3) := by decide +kernel
theorem d_LW_goes_454 : decode Y_LW_goes.2.1 454 = .ok (.goto (-52), 3) := by decide +kernel
theorem d_LW_goes_457 : decode Y_LW_goes.2.1 457 = .ok (.iload 10, 2) := by decide +kernel
theorem d_LW_goes_459 : decode Y_LW_goes.2.1 459 = .ok (.ifCond .eq (40), 3) := by decide +kernel
theorem d_LW_goes_462 : decode Y_LW_goes.2.1 462 = .ok (.aload_n 0, 1) := by decide +kernel
theorem d_LW_goes_463 : decode Y_LW_goes.2.1 463 = .ok (.iconst (2), 1) := by decide +kernel
theorem d_LW_goes_464 : decode Y_LW_goes.2.1 464 = .ok (.bipush (6), 2) := by decide +kernel
theorem d_LW_goes_466 : decode Y_LW_goes.2.1 466 = .ok (.iconst (0), 1) := by decide +kernel
theorem d_LW_goes_467 : decode Y_LW_goes.2.1 467 = .ok (.iconst (0), 1) := by decide +kernel
theorem d_LW_goes_468 : decode Y_LW_goes.2.1 468 = .ok (.invokestatic 156, 3) := by decide +kernel
theorem d_LW_goes_471 : decode Y_LW_goes.2.1 471 = .ok (.aload_n 0, 1) := by decide +kernel
theorem d_LW_goes_472 : decode Y_LW_goes.2.1 472 = .ok (.iconst (2), 1) := by decide +kernel
theorem d_LW_goes_473 : decode Y_LW_goes.2.1 473 = .ok (.bipush (7), 2) := by decide +kernel
theorem d_LW_goes_475 : decode Y_LW_goes.2.1 475 = .ok (.iconst (0), 1) := by decide +kernel
theorem d_LW_goes_476 : decode Y_LW_goes.2.1 476 = .ok (.iconst (0), 1) := by decide +kernel
theorem d_LW_goes_477 : decode Y_LW_goes.2.1 477 = .ok (.invokestatic 156, 3) := by decide +kernel
theorem d_LW_goes_480 : decode Y_LW_goes.2.1 480 = .ok (.iadd, 1) := by decide +kernel
theorem d_LW_goes_481 : decode Y_LW_goes.2.1 481 = .ok (.iload 9, 2) := by decide +kernel
theorem d_LW_goes_483 : decode Y_LW_goes.2.1 483 = .ok (.if_icmp .ne (16), 3) := by decide +kernel
theorem d_LW_goes_486 : decode Y_LW_goes.2.1 486 = .ok (.aload_n 0, 1) := by decide +kernel
theorem d_LW_goes_487 : decode Y_LW_goes.2.1 487 = .ok (.invokevirtual 188, 3) := by decide +kernel
theorem d_LW_goes_490 : decode Y_LW_goes.2.1 490 = .ok (.iload 11, 2) := by decide +kernel
theorem d_LW_goes_492 : decode Y_LW_goes.2.1 492 = .ok (.if_icmp .ne (7), 3) := by decide +kernel
theorem d_LW_goes_495 : decode Y_LW_goes.2.1 495 = .ok (.iconst (1), 1) := by decide +kernel
theorem d_LW_goes_496 : decode Y_LW_goes.2.1 496 = .ok (.goto (4), 3) := by decide +kernel
theorem d_LW_goes_499 : decode Y_LW_goes.2.1 499 = .ok (.iconst (0), 1) := by decide +kernel
theorem d_LW_goes_500 : decode Y_LW_goes.2.1 500 = .ok (.ireturn, 1) := by decide +kernel
def f_LW_goes (w : zW) (D : zD) (r0 : Nat) (r1 : Nat) (x2 : Int32) : Option (Int32 × zD) := zjp (fun (x3 : Int32) (x4 : Int32) (x5 : Int32) (x6 : Int32) (s0 : Int32) (D1 : zD) => zjp (fun (x3 : Int32) (x4 : Int32) (x6 : Int32) (x7 : Int32) (x9 : Int32) (s0 : Int32) (D3 : zD) => zjp (fun (x9 : Int32) (x10 : Int32) (D5 : zD) => zjp (zlp (fun (_ : Int32) (_ : Int32) (_ : Int32) (_ : Int32) (_ : Int32) (_ : zD) => none) (fun (j251 : Int32 → Int32 → Int32 → Int32 → Int32 → zD → Option (Int32 × zD)) (x9 : Int32) (x10 : Int32) (x11 : Int32) (x12 : Int32) (x13 : Int32) (D7 : zD) => zjp (fun (x9 : Int32) (x10 : Int32) (x11 : Int32) (x12 : Int32) (D9 : zD) => zjp (fun (x9 : Int32) (x11 : Int32) (x12 : Int32) (s0 : Int32) (D11 : zD) => zjp (fun (x9 : Int32) (x10 : Int32) (x11 : Int32) (x12 : Int32) (D13 : zD) => zjp (zlp (fun (_ : Int32) (_ : Int32) (_ : Int32) (_ : Int32) (_ : Int32) (_ : zD) => none) (fun (j402 : Int32 → Int32 → Int32 → Int32 → Int32 → zD → Option (Int32 × zD)) (x9 : Int32) (x10 : Int32) (x11 : Int32) (x12 : Int32) (x13 : Int32) (D15 : zD) => zjp (fun (x9 : Int32) (x10 : Int32) (x11 : Int32) (D17 : zD) => zjp (fun (s0 : Int32) (D19 : zD) => zchk (s0 = 0 ∨ s0 = 1) (some (s0, D19))) (fun j500 => zjp (fun (D21 : zD) => j500 (0 : Int32) D21) (fun j499 => (if x10 = 0 then j499 D17 else zci (f_LW_call w D17 r0 (2 : Int32) (6 : Int32) (0 : Int32) (0 : Int32)) (fun v23 D24 => zci (f_LW_call w D24 r0 (2 : Int32) (7 : Int32) (0 : Int32) (0 : Int32)) (fun v26 D27 => (if (v23 + v26) = x9 then zobj w 0 r0 (zci (f_SF_quietIn w D27 r0 ) (fun v29 D30 => (if v29 = x11 then j500 (1 : Int32) D30 else j499 D30))) else j499 D27))))))) (fun j457 => (if x12 ≤ x13 then j457 x9 x10 x11 D15 else (if x10 = 0 then j457 x9 x10 x11 D15 else zjp (fun (x9 : Int32) (x11 : Int32) (x12 : Int32) (x13 : Int32) (s0 : Int32) (D31 : zD) => zlet (x13 + (1 : Int32)) (fun v33 => j402 x9 s0 x11 x12 v33 D31)) (fun j449 => zjp (fun (x9 : Int32) (x11 : Int32) (x12 : Int32) (x13 : Int32) (D34 : zD) => j449 x9 x11 x12 x13 (0 : Int32) D34) (fun j448 => zci (f_LW_call w D15 r0 (11 : Int32) (0 : Int32) (0 : Int32) (0 : Int32)) (fun v36 D37 => zci (f_LW_thrown w D37 v36) (fun v39 D40 => (if v39 = 0 then zci (f_LW_call w D40 r1 (11 : Int32) (0 : Int32) (0 : Int32) (0 : Int32)) (fun v41 D42 => zci (f_LW_thrown w D42 v41) (fun v44 D45 => (if v44 = 0 then j449 x9 x11 x12 x13 (1 : Int32) D45 else j448 x9 x11 x12 x13 D45))) else j448 x9 x11 x12 x13 D40))))))))) 6) (fun j402 => j402 x9 x10 x11 x12 (0 : Int32) D13)) (fun j399 => (if x11 ≤ (1 : Int32) then j399 x9 s0 x11 x12 D11 else (if s0 = 0 then j399 x9 s0 x11 x12 D11 else zjp (fun (x9 : Int32) (x11 : Int32) (x12 : Int32) (s0 : Int32) (D46 : zD) => j399 x9 s0 x11 x12 D46) (fun j397 => zjp (fun (x9 : Int32) (x11 : Int32) (x12 : Int32) (D48 : zD) => j397 x9 x11 x12 (0 : Int32) D48) (fun j396 => zci (f_LW_waits w D11 r0 r1 (x11 - (1 : Int32))) (fun v50 D51 => (if v50 = 0 then j396 x9 x11 x12 D51 else zci (f_LW_call w D51 r0 (2 : Int32) (4 : Int32) (0 : Int32) (0 : Int32)) (fun v53 D54 => (if v53 ≤ 0 then j396 x9 x11 x12 D54 else zci (f_LW_undoes w D54 r0 r1 (x11 - (1 : Int32))) (fun v56 D57 => (if v56 = 0 then j396 x9 x11 x12 D57 else j397 x9 x11 x12 (1 : Int32) D57)))))))))))) (fun j344 => zjp (fun (x9 : Int32) (x11 : Int32) (x12 : Int32) (D59 : zD) => j344 x9 x11 x12 (0 : Int32) D59) (fun j343 => (if x10 = 0 then j343 x9 x11 x12 D9 else (if (99 : Int32) < x11 then j343 x9 x11 x12 D9 else zci (f_LW_waits w D9 r0 r1 x11) (fun v61 D62 => (if v61 = 0 then j343 x9 x11 x12 D62 else zci (f_LW_call w D62 r0 (2 : Int32) (4 : Int32) (0 : Int32) (0 : Int32)) (fun v64 D65 => (if v64 = 0 then zci (f_LW_undoes w D65 r0 r1 x11) (fun v67 D68 => (if v67 = 0 then j343 x9 x11 x12 D68 else j344 x9 x11 x12 (1 : Int32) D68)) else j343 x9 x11 x12 D65))))))))) (fun j296 => (if x12 ≤ x13 then j296 x9 x10 x11 x12 D7 else (if x10 = 0 then j296 x9 x10 x11 x12 D7 else zjp (fun (x9 : Int32) (x11 : Int32) (x12 : Int32) (x13 : Int32) (s0 : Int32) (D70 : zD) => zlet (x13 + (1 : Int32)) (fun v72 => j251 x9 s0 x11 x12 v72 D70)) (fun j288 => zjp (fun (x9 : Int32) (x11 : Int32) (x12 : Int32) (x13 : Int32) (D73 : zD) => j288 x9 x11 x12 x13 (0 : Int32) D73) (fun j287 => zci (f_LW_turned w D7 r0 x13 (0 : Int32)) (fun v75 D76 => (if v75 < 0 then j287 x9 x11 x12 x13 D76 else zci (f_LW_turned w D76 r1 x13 (0 : Int32)) (fun v78 D79 => (if v78 < 0 then j287 x9 x11 x12 x13 D79 else j288 x9 x11 x12 x13 (1 : Int32) D79)))))))))) 6) (fun j251 => zobj w 0 r0 (zci (f_SF_quietIn w D5 r0 ) (fun v81 D82 => zci (f_LW_call w D82 r0 (2 : Int32) (0 : Int32) (0 : Int32) (0 : Int32)) (fun v83 D84 => j251 x9 x10 v81 v83 (0 : Int32) D84))))) (fun j232 => (if x7 ≤ (1 : Int32) then j232 x9 s0 D3 else (if s0 = 0 then j232 x9 s0 D3 else zjp (fun (x9 : Int32) (s0 : Int32) (D86 : zD) => j232 x9 s0 D86) (fun j230 => zjp (fun (x9 : Int32) (D88 : zD) => j230 x9 (0 : Int32) D88) (fun j229 => zci (f_LW_waits w D3 r0 r1 (x7 - (1 : Int32))) (fun v90 D91 => (if v90 = 0 then j229 x9 D91 else zci (f_LW_call w D91 r0 (7 : Int32) x3 x4 (0 : Int32)) (fun v93 D94 => (if v93 = x6 then zci (f_LW_undoes w D94 r0 r1 (x7 - (1 : Int32))) (fun v96 D97 => (if v96 = 0 then j229 x9 D97 else j230 x9 (1 : Int32) D97)) else j229 x9 D94)))))))))) (fun j173 => zjp (fun (x3 : Int32) (x4 : Int32) (x6 : Int32) (x7 : Int32) (x9 : Int32) (D99 : zD) => j173 x3 x4 x6 x7 x9 (0 : Int32) D99) (fun j172 => zci (f_LW_call w D1 r0 (12 : Int32) x4 s0 (1 : Int32)) (fun v101 D102 => zci (f_LW_call w D102 r0 (2 : Int32) (6 : Int32) (0 : Int32) (0 : Int32)) (fun v104 D105 => zci (f_LW_call w D105 r0 (2 : Int32) (7 : Int32) (0 : Int32) (0 : Int32)) (fun v107 D108 => zlet (v104 + v107) (fun v110 => zci (f_LW_waits w D108 r0 r1 s0) (fun v111 D112 => (if v111 = 0 then j172 x3 x4 x6 s0 v110 D112 else zjp (fun (x3 : Int32) (x4 : Int32) (x5 : Int32) (x6 : Int32) (x7 : Int32) (x8 : Int32) (x9 : Int32) (s0 : Int32) (D114 : zD) => zjp (fun (x3 : Int32) (x4 : Int32) (x6 : Int32) (x7 : Int32) (x8 : Int32) (x9 : Int32) (s0 : Int32) (s1 : Int32) (D116 : zD) => (if s0 = s1 then zci (f_LW_call w D116 r0 (3 : Int32) x4 (6 : Int32) (0 : Int32)) (fun v118 D119 => (if v118 = x8 then zci (f_LW_undoes w D119 r0 r1 x7) (fun v121 D122 => (if v121 = 0 then j172 x3 x4 x6 x7 x9 D122 else j173 x3 x4 x6 x7 x9 (1 : Int32) D122)) else j172 x3 x4 x6 x7 x9 D119)) else j172 x3 x4 x6 x7 x9 D116)) (fun j140 => (if x5 = (-1 : Int32) then j140 x3 x4 x6 x7 x8 x9 s0 (0 : Int32) D114 else j140 x3 x4 x6 x7 x8 x9 s0 (1 : Int32) D114))) (fun j129 => zci (f_LW_call w D112 r0 (7 : Int32) x3 x4 (0 : Int32)) (fun v124 D125 => (if v124 ≤ x6 then j129 x3 x4 x5 x6 s0 v101 v110 (0 : Int32) D125 else j129 x3 x4 x5 x6 s0 v101 v110 (1 : Int32) D125)))))))))))) (fun j63 => zci (f_LW_call w D r0 (2 : Int32) (1 : Int32) (0 : Int32) (0 : Int32)) (fun v127 D128 => zchk (¬ v127 = 0) (zlet (zirem x2 v127) (fun v130 => zci (f_LW_call w D128 r0 (2 : Int32) (0 : Int32) (0 : Int32) (0 : Int32)) (fun v131 D132 => zchk (¬ v131 = 0) (zlet (zirem (x2 / (4 : Int32)) v131) (fun v134 => zci (f_LW_call w D132 r0 (13 : Int32) v130 v134 (0 : Int32)) (fun v135 D136 => zci (f_LW_call w D136 r0 (7 : Int32) v130 v134 (0 : Int32)) (fun v138 D139 => (if v135 = (-1 : Int32) then j63 v130 v134 v135 v138 (200 : Int32) D139 else j63 v130 v134 v135 v138 v135 D139))))))))))
set_option maxHeartbeats 8000000 in
set_option maxRecDepth 100000 in
theorem c_LW_goes (z : zT) (D : zD) (r0 : Nat) (r1 : Nat) (x2 : Int32) : zM Y_LW_goes 12 135 810 (zqY z.2) (f_LW_goes z.2 D r0 r1 x2) [.ref r0, .ref r1, .int x2] z D := by
  refine zM_of (plainFor_of_name (by decide +kernel)) rfl (Nat.le_of_ble_eq_true rfl) (fun _ _ _ _ h => nomatch h.1) (fun K => ?_)
  obtain ⟨n0, w⟩ := z
  show zGO K Y_LW_goes 12 135 810 (zqY w) (f_LW_goes w D r0 r1 x2) 135 810 (n0, w) D 0 [(0, .ref r0), (1, .ref r1), (2, .int x2)] []
  unfold f_LW_goes
  refine z_jp (fun j63 : Int32 → Int32 → Int32 → Int32 → Int32 → zD → Option (Int32 × zD) => ∀ (x3 : Int32) (x4 : Int32) (x5 : Int32) (x6 : Int32) (s0 : Int32) (m2 : Nat) (D1 : zD), zGO K Y_LW_goes 12 135 810 (zqY w) (j63 x3 x4 x5 x6 s0 D1) 131 786 (m2, w) D1 63 [(0, .ref r0), (1, .ref r1), (3, .int x3), (4, .int x4), (5, .int x5), (6, .int x6)] [.int s0]) (fun x3 x4 x5 x6 s0 m2 D1 => ?_) (fun j63 h63 => ?_)
  · refine z_jp (fun j173 : Int32 → Int32 → Int32 → Int32 → Int32 → Int32 → zD → Option (Int32 × zD) => ∀ (x3 : Int32) (x4 : Int32) (x6 : Int32) (x7 : Int32) (x9 : Int32) (s0 : Int32) (m4 : Nat) (D3 : zD), zGO K Y_LW_goes 12 135 810 (zqY w) (j173 x3 x4 x6 x7 x9 s0 D3) 102 612 (m4, w) D3 173 [(0, .ref r0), (1, .ref r1), (3, .int x3), (4, .int x4), (6, .int x6), (7, .int x7), (9, .int x9)] [.int s0]) (fun x3 x4 x6 x7 x9 s0 m4 D3 => ?_) (fun j173 h173 => ?_)
    · refine z_jp (fun j232 : Int32 → Int32 → zD → Option (Int32 × zD) => ∀ (x9 : Int32) (x10 : Int32) (m6 : Nat) (D5 : zD), zGO K Y_LW_goes 12 135 810 (zqY w) (j232 x9 x10 D5) 77 462 (m6, w) D5 232 [(0, .ref r0), (1, .ref r1), (9, .int x9), (10, .int x10)] []) (fun x9 x10 m6 D5 => ?_) (fun j232 h232 => ?_)
      · refine z_jp (fun j251 : Int32 → Int32 → Int32 → Int32 → Int32 → zD → Option (Int32 × zD) => ∀ (x9 : Int32) (x10 : Int32) (x11 : Int32) (x12 : Int32) (x13 : Int32) (m8 : Nat) (D7 : zD), zGO K Y_LW_goes 12 135 810 (zqY w) (j251 x9 x10 x11 x12 x13 D7) (6 * 2 + 64) (6 * 12 + 384) (m8, w) D7 251 [(0, .ref r0), (1, .ref r1), (9, .int x9), (10, .int x10), (11, .int x11), (12, .int x12), (13, .int x13)] []) (z_lpA (fun (n251 : Nat) (j251 : Int32 → Int32 → Int32 → Int32 → Int32 → zD → Option (Int32 × zD)) => ∀ (x9 : Int32) (x10 : Int32) (x11 : Int32) (x12 : Int32) (x13 : Int32) (m8 : Nat) (D7 : zD), zGO K Y_LW_goes 12 135 810 (zqY w) (j251 x9 x10 x11 x12 x13 D7) (n251 * 2 + 64) (n251 * 12 + 384) (m8, w) D7 251 [(0, .ref r0), (1, .ref r1), (9, .int x9), (10, .int x10), (11, .int x11), (12, .int x12), (13, .int x13)] []) (fun _ _ _ _ _ _ _ => z_none) (fun n251 j251 h251 x9 x10 x11 x12 x13 m8 D7 => ?_) 6) (fun j251 h251 => ?_)
        · refine z_jp (fun j296 : Int32 → Int32 → Int32 → Int32 → zD → Option (Int32 × zD) => ∀ (x9 : Int32) (x10 : Int32) (x11 : Int32) (x12 : Int32) (m10 : Nat) (D9 : zD), zGO K Y_LW_goes 12 135 810 (zqY w) (j296 x9 x10 x11 x12 D9) 64 384 (m10, w) D9 296 [(0, .ref r0), (1, .ref r1), (9, .int x9), (10, .int x10), (11, .int x11), (12, .int x12)] []) (fun x9 x10 x11 x12 m10 D9 => ?_) (fun j296 h296 => ?_)
          · refine z_jp (fun j344 : Int32 → Int32 → Int32 → Int32 → zD → Option (Int32 × zD) => ∀ (x9 : Int32) (x11 : Int32) (x12 : Int32) (s0 : Int32) (m12 : Nat) (D11 : zD), zGO K Y_LW_goes 12 135 810 (zqY w) (j344 x9 x11 x12 s0 D11) 39 234 (m12, w) D11 344 [(0, .ref r0), (1, .ref r1), (9, .int x9), (11, .int x11), (12, .int x12)] [.int s0]) (fun x9 x11 x12 s0 m12 D11 => ?_) (fun j344 h344 => ?_)
            · refine z_jp (fun j399 : Int32 → Int32 → Int32 → Int32 → zD → Option (Int32 × zD) => ∀ (x9 : Int32) (x10 : Int32) (x11 : Int32) (x12 : Int32) (m14 : Nat) (D13 : zD), zGO K Y_LW_goes 12 135 810 (zqY w) (j399 x9 x10 x11 x12 D13) 14 84 (m14, w) D13 399 [(0, .ref r0), (1, .ref r1), (9, .int x9), (10, .int x10), (11, .int x11), (12, .int x12)] []) (fun x9 x10 x11 x12 m14 D13 => ?_) (fun j399 h399 => ?_)
              · refine z_jp (fun j402 : Int32 → Int32 → Int32 → Int32 → Int32 → zD → Option (Int32 × zD) => ∀ (x9 : Int32) (x10 : Int32) (x11 : Int32) (x12 : Int32) (x13 : Int32) (m16 : Nat) (D15 : zD), zGO K Y_LW_goes 12 135 810 (zqY w) (j402 x9 x10 x11 x12 x13 D15) (6 * 2 + 2) (6 * 12 + 12) (m16, w) D15 402 [(0, .ref r0), (1, .ref r1), (9, .int x9), (10, .int x10), (11, .int x11), (12, .int x12), (13, .int x13)] []) (z_lpA (fun (n402 : Nat) (j402 : Int32 → Int32 → Int32 → Int32 → Int32 → zD → Option (Int32 × zD)) => ∀ (x9 : Int32) (x10 : Int32) (x11 : Int32) (x12 : Int32) (x13 : Int32) (m16 : Nat) (D15 : zD), zGO K Y_LW_goes 12 135 810 (zqY w) (j402 x9 x10 x11 x12 x13 D15) (n402 * 2 + 2) (n402 * 12 + 12) (m16, w) D15 402 [(0, .ref r0), (1, .ref r1), (9, .int x9), (10, .int x10), (11, .int x11), (12, .int x12), (13, .int x13)] []) (fun _ _ _ _ _ _ _ => z_none) (fun n402 j402 h402 x9 x10 x11 x12 x13 m16 D15 => ?_) 6) (fun j402 h402 => ?_)
                · refine z_jp (fun j457 : Int32 → Int32 → Int32 → zD → Option (Int32 × zD) => ∀ (x9 : Int32) (x10 : Int32) (x11 : Int32) (m18 : Nat) (D17 : zD), zGO K Y_LW_goes 12 135 810 (zqY w) (j457 x9 x10 x11 D17) 2 12 (m18, w) D17 457 [(0, .ref r0), (9, .int x9), (10, .int x10), (11, .int x11)] []) (fun x9 x10 x11 m18 D17 => ?_) (fun j457 h457 => ?_)
                  · refine z_jp (fun j500 : Int32 → zD → Option (Int32 × zD) => ∀ (s0 : Int32) (m20 : Nat) (D19 : zD), zGO K Y_LW_goes 12 135 810 (zqY w) (j500 s0 D19) 0 0 (m20, w) D19 500 [] [.int s0]) (fun s0 m20 D19 => ?_) (fun j500 h500 => ?_)
                    · exact z_yretZ (pc := 500) rfl d_LW_goes_500 rfl
                    · refine z_jp (fun j499 : zD → Option (Int32 × zD) => ∀ (m22 : Nat) (D21 : zD), zGO K Y_LW_goes 12 135 810 (zqY w) (j499 D21) 0 0 (m22, w) D21 499 [] []) (fun m22 D21 => ?_) (fun j499 h499 => ?_)
                      · refine z_iconst (pc := 499) d_LW_goes_499 ki_0 ?_
                        refine z_kc (by omega) (by omega) (z_sub [] rfl (h500 (0 : Int32) m22 D21))
                      · refine z_iload (pc := 457) d_LW_goes_457 2 rfl ?_
                        refine z_if_eq (pc := 459) (tgt := 499) d_LW_goes_459 (by decide) ?_ ?_
                        · refine z_kc (by omega) (by omega) (z_sub [] rfl (h499 m18 D17))
                        · refine z_aload_n (pc := 462) d_LW_goes_462 rfl 0 rfl ?_
                          refine z_iconst (pc := 463) d_LW_goes_463 ki_2 ?_
                          refine z_bipush (pc := 464) d_LW_goes_464 kb_6 ?_
                          refine z_iconst (pc := 466) d_LW_goes_466 ki_0 ?_
                          refine z_iconst (pc := 467) d_LW_goes_467 ki_0 ?_
                          refine z_callYA (pc := 468) (kc2 := 1) (ks2 := 6) [.ref r0, .int (2 : Int32), .int (6 : Int32), .int (0 : Int32), .int (0 : Int32)] lkS_LW_156 (c_LW_call (m18, w) D17 r0 (2 : Int32) (6 : Int32) (0 : Int32) (0 : Int32)) (by decide) (by omega) (by omega) rfl rfl (Nat.le_of_ble_eq_true rfl) d_LW_goes_468 (fun v23 D24 m25 => ?_)
                          refine z_aload_n (pc := 471) d_LW_goes_471 rfl 0 rfl ?_
                          refine z_iconst (pc := 472) d_LW_goes_472 ki_2 ?_
                          refine z_bipush (pc := 473) d_LW_goes_473 kb_7 ?_
                          refine z_iconst (pc := 475) d_LW_goes_475 ki_0 ?_
                          refine z_iconst (pc := 476) d_LW_goes_476 ki_0 ?_
                          refine z_callYA (pc := 477) (kc2 := 0) (ks2 := 0) [.ref r0, .int (2 : Int32), .int (7 : Int32), .int (0 : Int32), .int (0 : Int32)] lkS_LW_156 (c_LW_call (m25, w) D24 r0 (2 : Int32) (7 : Int32) (0 : Int32) (0 : Int32)) (by decide) (by omega) (by omega) rfl rfl (Nat.le_of_ble_eq_true rfl) d_LW_goes_477 (fun v26 D27 m28 => ?_)
                          refine z_iadd (pc := 480) d_LW_goes_480 ?_
                          refine z_iload (pc := 481) d_LW_goes_481 1 rfl ?_
                          refine z_icmp_ne (pc := 483) (tgt := 499) d_LW_goes_483 (by decide) ?_ ?_
                          · refine z_aload_n (pc := 486) d_LW_goes_486 rfl 0 rfl ?_
                            refine z_callVi (pc := 487) [] lkV_LW_188 rfl (c_SF_quietIn (m28, w) D27 r0 ) (by decide) rfl rfl (Nat.le_of_ble_eq_true rfl) d_LW_goes_487 (fun v29 D30 => ?_)
                            refine z_iload (pc := 490) d_LW_goes_490 3 rfl ?_
                            refine z_icmp_ne (pc := 492) (tgt := 499) d_LW_goes_492 (by decide) ?_ ?_
                            · refine z_iconst (pc := 495) d_LW_goes_495 ki_1 ?_
                              refine z_goto (pc := 496) (tgt := 500) d_LW_goes_496 (by decide) ?_
                              refine z_kc (by omega) (by omega) (z_sub [] rfl (h500 (1 : Int32) m28 D30))
                            · refine z_kc (by omega) (by omega) (z_sub [] rfl (h499 m28 D30))
                          · refine z_kc (by omega) (by omega) (z_sub [] rfl (h499 m28 D27))
                  · refine z_iload (pc := 402) d_LW_goes_402 6 rfl ?_
                    refine z_iload (pc := 404) d_LW_goes_404 5 rfl ?_
                    refine z_icmp_ge (pc := 406) (tgt := 457) d_LW_goes_406 (by decide) ?_ ?_
                    · refine z_kc (by omega) (by omega) (z_sub [0, 2, 3, 4] rfl (h457 x9 x10 x11 m16 D15))
                    · refine z_iload (pc := 409) d_LW_goes_409 3 rfl ?_
                      refine z_if_eq (pc := 411) (tgt := 457) d_LW_goes_411 (by decide) ?_ ?_
                      · refine z_kc (by omega) (by omega) (z_sub [0, 2, 3, 4] rfl (h457 x9 x10 x11 m16 D15))
                      · refine z_jp (fun j449 : Int32 → Int32 → Int32 → Int32 → Int32 → zD → Option (Int32 × zD) => ∀ (x9 : Int32) (x11 : Int32) (x12 : Int32) (x13 : Int32) (s0 : Int32) (m32 : Nat) (D31 : zD), zGO K Y_LW_goes 12 135 810 (zqY w) (j449 x9 x11 x12 x13 s0 D31) (n402 * 2 + 2) (n402 * 12 + 12) (m32, w) D31 449 [(0, .ref r0), (1, .ref r1), (9, .int x9), (11, .int x11), (12, .int x12), (13, .int x13)] [.int s0]) (fun x9 x11 x12 x13 s0 m32 D31 => ?_) (fun j449 h449 => ?_)
                        · refine z_istore (pc := 449) d_LW_goes_449 (by decide) (lv' := [(10, .int s0), (0, .ref r0), (1, .ref r1), (9, .int x9), (11, .int x11), (12, .int x12), (13, .int x13)]) rfl ?_
                          refine z_iincL (pc := 451) d_LW_goes_451 ki_1 6 rfl (by decide) (fun v33 => z_lvc (lv2 := [(13, .int v33), (10, .int s0), (0, .ref r0), (1, .ref r1), (9, .int x9), (11, .int x11), (12, .int x12)]) rfl ?_)
                          refine z_goto (pc := 454) (tgt := 402) d_LW_goes_454 (by decide) ?_
                          refine z_kc (by omega) (by omega) (z_sub [2, 3, 4, 1, 5, 6, 0] rfl (h402 x9 s0 x11 x12 v33 m32 D31))
                        · refine z_jp (fun j448 : Int32 → Int32 → Int32 → Int32 → zD → Option (Int32 × zD) => ∀ (x9 : Int32) (x11 : Int32) (x12 : Int32) (x13 : Int32) (m35 : Nat) (D34 : zD), zGO K Y_LW_goes 12 135 810 (zqY w) (j448 x9 x11 x12 x13 D34) (n402 * 2 + 2) (n402 * 12 + 12) (m35, w) D34 448 [(0, .ref r0), (1, .ref r1), (9, .int x9), (11, .int x11), (12, .int x12), (13, .int x13)] []) (fun x9 x11 x12 x13 m35 D34 => ?_) (fun j448 h448 => ?_)
                          · refine z_iconst (pc := 448) d_LW_goes_448 ki_0 ?_
                            refine z_kc (by omega) (by omega) (z_sub [0, 1, 2, 3, 4, 5] rfl (h449 x9 x11 x12 x13 (0 : Int32) m35 D34))
                          · refine z_aload_n (pc := 414) d_LW_goes_414 rfl 0 rfl ?_
                            refine z_bipush (pc := 415) d_LW_goes_415 kb_11 ?_
                            refine z_iconst (pc := 417) d_LW_goes_417 ki_0 ?_
                            refine z_iconst (pc := 418) d_LW_goes_418 ki_0 ?_
                            refine z_iconst (pc := 419) d_LW_goes_419 ki_0 ?_
                            refine z_callYA (pc := 420) (kc2 := (n402 * 2 + 3)) (ks2 := (n402 * 12 + 18)) [.ref r0, .int (11 : Int32), .int (0 : Int32), .int (0 : Int32), .int (0 : Int32)] lkS_LW_156 (c_LW_call (m16, w) D15 r0 (11 : Int32) (0 : Int32) (0 : Int32) (0 : Int32)) (by decide) (by omega) (by omega) rfl rfl (Nat.le_of_ble_eq_true rfl) d_LW_goes_420 (fun v36 D37 m38 => ?_)
                            refine z_callSi (pc := 423) [.int v36] lkS_LW_219 (c_LW_thrown (m38, w) D37 v36) (by decide) rfl rfl (Nat.le_of_ble_eq_true rfl) d_LW_goes_423 (fun v39 D40 => ?_)
                            refine z_if_ne (pc := 426) (tgt := 448) d_LW_goes_426 (by decide) ?_ ?_
                            · refine z_aload_n (pc := 429) d_LW_goes_429 rfl 1 rfl ?_
                              refine z_bipush (pc := 430) d_LW_goes_430 kb_11 ?_
                              refine z_iconst (pc := 432) d_LW_goes_432 ki_0 ?_
                              refine z_iconst (pc := 433) d_LW_goes_433 ki_0 ?_
                              refine z_iconst (pc := 434) d_LW_goes_434 ki_0 ?_
                              refine z_callYA (pc := 435) (kc2 := (n402 * 2 + 2)) (ks2 := (n402 * 12 + 12)) [.ref r1, .int (11 : Int32), .int (0 : Int32), .int (0 : Int32), .int (0 : Int32)] lkS_LW_156 (c_LW_call (m38, w) D40 r1 (11 : Int32) (0 : Int32) (0 : Int32) (0 : Int32)) (by decide) (by omega) (by omega) rfl rfl (Nat.le_of_ble_eq_true rfl) d_LW_goes_435 (fun v41 D42 m43 => ?_)
                              refine z_callSi (pc := 438) [.int v41] lkS_LW_219 (c_LW_thrown (m43, w) D42 v41) (by decide) rfl rfl (Nat.le_of_ble_eq_true rfl) d_LW_goes_438 (fun v44 D45 => ?_)
                              refine z_if_ne (pc := 441) (tgt := 448) d_LW_goes_441 (by decide) ?_ ?_
                              · refine z_iconst (pc := 444) d_LW_goes_444 ki_1 ?_
                                refine z_goto (pc := 445) (tgt := 449) d_LW_goes_445 (by decide) ?_
                                refine z_kc (by omega) (by omega) (z_sub [0, 1, 2, 4, 5, 6] rfl (h449 x9 x11 x12 x13 (1 : Int32) m43 D45))
                              · refine z_kc (by omega) (by omega) (z_sub [0, 1, 2, 4, 5, 6] rfl (h448 x9 x11 x12 x13 m43 D45))
                            · refine z_kc (by omega) (by omega) (z_sub [0, 1, 2, 4, 5, 6] rfl (h448 x9 x11 x12 x13 m38 D40))
                · refine z_iconst (pc := 399) d_LW_goes_399 ki_0 ?_
                  refine z_istore (pc := 400) d_LW_goes_400 (by decide) (lv' := [(13, .int (0 : Int32)), (0, .ref r0), (1, .ref r1), (9, .int x9), (10, .int x10), (11, .int x11), (12, .int x12)]) rfl ?_
                  refine z_kc (by omega) (by omega) (z_sub [1, 2, 3, 4, 5, 6, 0] rfl (h402 x9 x10 x11 x12 (0 : Int32) m14 D13))
              · refine z_istore (pc := 344) d_LW_goes_344 (by decide) (lv' := [(10, .int s0), (0, .ref r0), (1, .ref r1), (9, .int x9), (11, .int x11), (12, .int x12)]) rfl ?_
                refine z_iload (pc := 346) d_LW_goes_346 4 rfl ?_
                refine z_iconst (pc := 348) d_LW_goes_348 ki_1 ?_
                refine z_icmp_le (pc := 349) (tgt := 399) d_LW_goes_349 (by decide) ?_ ?_
                · refine z_kc (by omega) (by omega) (z_sub [1, 2, 3, 0, 4, 5] rfl (h399 x9 s0 x11 x12 m12 D11))
                · refine z_iload (pc := 352) d_LW_goes_352 0 rfl ?_
                  refine z_if_eq (pc := 354) (tgt := 399) d_LW_goes_354 (by decide) ?_ ?_
                  · refine z_kc (by omega) (by omega) (z_sub [1, 2, 3, 0, 4, 5] rfl (h399 x9 s0 x11 x12 m12 D11))
                  · refine z_jp (fun j397 : Int32 → Int32 → Int32 → Int32 → zD → Option (Int32 × zD) => ∀ (x9 : Int32) (x11 : Int32) (x12 : Int32) (s0 : Int32) (m47 : Nat) (D46 : zD), zGO K Y_LW_goes 12 135 810 (zqY w) (j397 x9 x11 x12 s0 D46) 14 84 (m47, w) D46 397 [(0, .ref r0), (1, .ref r1), (9, .int x9), (11, .int x11), (12, .int x12)] [.int s0]) (fun x9 x11 x12 s0 m47 D46 => ?_) (fun j397 h397 => ?_)
                    · refine z_istore (pc := 397) d_LW_goes_397 (by decide) (lv' := [(10, .int s0), (0, .ref r0), (1, .ref r1), (9, .int x9), (11, .int x11), (12, .int x12)]) rfl ?_
                      refine z_kc (by omega) (by omega) (z_sub [1, 2, 3, 0, 4, 5] rfl (h399 x9 s0 x11 x12 m47 D46))
                    · refine z_jp (fun j396 : Int32 → Int32 → Int32 → zD → Option (Int32 × zD) => ∀ (x9 : Int32) (x11 : Int32) (x12 : Int32) (m49 : Nat) (D48 : zD), zGO K Y_LW_goes 12 135 810 (zqY w) (j396 x9 x11 x12 D48) 14 84 (m49, w) D48 396 [(0, .ref r0), (1, .ref r1), (9, .int x9), (11, .int x11), (12, .int x12)] []) (fun x9 x11 x12 m49 D48 => ?_) (fun j396 h396 => ?_)
                      · refine z_iconst (pc := 396) d_LW_goes_396 ki_0 ?_
                        refine z_kc (by omega) (by omega) (z_sub [0, 1, 2, 3, 4] rfl (h397 x9 x11 x12 (0 : Int32) m49 D48))
                      · refine z_aload_n (pc := 357) d_LW_goes_357 rfl 1 rfl ?_
                        refine z_aload_n (pc := 358) d_LW_goes_358 rfl 2 rfl ?_
                        refine z_iload (pc := 359) d_LW_goes_359 4 rfl ?_
                        refine z_iconst (pc := 361) d_LW_goes_361 ki_1 ?_
                        refine z_isub (pc := 362) d_LW_goes_362 ?_
                        refine z_callYA (pc := 363) (kc2 := 27) (ks2 := 162) [.ref r0, .ref r1, .int (x11 - (1 : Int32))] lkS_LW_223 (c_LW_waits (m12, w) D11 r0 r1 (x11 - (1 : Int32))) (by decide) (by omega) (by omega) rfl rfl (Nat.le_of_ble_eq_true rfl) d_LW_goes_363 (fun v50 D51 m52 => ?_)
                        refine z_if_eq (pc := 366) (tgt := 396) d_LW_goes_366 (by decide) ?_ ?_
                        · refine z_kc (by omega) (by omega) (z_sub [1, 2, 3, 4, 5] rfl (h396 x9 x11 x12 m52 D51))
                        · refine z_aload_n (pc := 369) d_LW_goes_369 rfl 1 rfl ?_
                          refine z_iconst (pc := 370) d_LW_goes_370 ki_2 ?_
                          refine z_iconst (pc := 371) d_LW_goes_371 ki_4 ?_
                          refine z_iconst (pc := 372) d_LW_goes_372 ki_0 ?_
                          refine z_iconst (pc := 373) d_LW_goes_373 ki_0 ?_
                          refine z_callYA (pc := 374) (kc2 := 26) (ks2 := 156) [.ref r0, .int (2 : Int32), .int (4 : Int32), .int (0 : Int32), .int (0 : Int32)] lkS_LW_156 (c_LW_call (m52, w) D51 r0 (2 : Int32) (4 : Int32) (0 : Int32) (0 : Int32)) (by decide) (by omega) (by omega) rfl rfl (Nat.le_of_ble_eq_true rfl) d_LW_goes_374 (fun v53 D54 m55 => ?_)
                          refine z_if_le (pc := 377) (tgt := 396) d_LW_goes_377 (by decide) ?_ ?_
                          · refine z_kc (by omega) (by omega) (z_sub [1, 2, 3, 4, 5] rfl (h396 x9 x11 x12 m55 D54))
                          · refine z_aload_n (pc := 380) d_LW_goes_380 rfl 1 rfl ?_
                            refine z_aload_n (pc := 381) d_LW_goes_381 rfl 2 rfl ?_
                            refine z_iload (pc := 382) d_LW_goes_382 4 rfl ?_
                            refine z_iconst (pc := 384) d_LW_goes_384 ki_1 ?_
                            refine z_isub (pc := 385) d_LW_goes_385 ?_
                            refine z_callYA (pc := 386) (kc2 := 14) (ks2 := 84) [.ref r0, .ref r1, .int (x11 - (1 : Int32))] lkS_LW_226 (c_LW_undoes (m55, w) D54 r0 r1 (x11 - (1 : Int32))) (by decide) (by omega) (by omega) rfl rfl (Nat.le_of_ble_eq_true rfl) d_LW_goes_386 (fun v56 D57 m58 => ?_)
                            refine z_if_eq (pc := 389) (tgt := 396) d_LW_goes_389 (by decide) ?_ ?_
                            · refine z_kc (by omega) (by omega) (z_sub [1, 2, 3, 4, 5] rfl (h396 x9 x11 x12 m58 D57))
                            · refine z_iconst (pc := 392) d_LW_goes_392 ki_1 ?_
                              refine z_goto (pc := 393) (tgt := 397) d_LW_goes_393 (by decide) ?_
                              refine z_kc (by omega) (by omega) (z_sub [1, 2, 3, 4, 5] rfl (h397 x9 x11 x12 (1 : Int32) m58 D57))
            · refine z_jp (fun j343 : Int32 → Int32 → Int32 → zD → Option (Int32 × zD) => ∀ (x9 : Int32) (x11 : Int32) (x12 : Int32) (m60 : Nat) (D59 : zD), zGO K Y_LW_goes 12 135 810 (zqY w) (j343 x9 x11 x12 D59) 39 234 (m60, w) D59 343 [(0, .ref r0), (1, .ref r1), (9, .int x9), (11, .int x11), (12, .int x12)] []) (fun x9 x11 x12 m60 D59 => ?_) (fun j343 h343 => ?_)
              · refine z_iconst (pc := 343) d_LW_goes_343 ki_0 ?_
                refine z_kc (by omega) (by omega) (z_sub [0, 1, 2, 3, 4] rfl (h344 x9 x11 x12 (0 : Int32) m60 D59))
              · refine z_iload (pc := 296) d_LW_goes_296 3 rfl ?_
                refine z_if_eq (pc := 298) (tgt := 343) d_LW_goes_298 (by decide) ?_ ?_
                · refine z_kc (by omega) (by omega) (z_sub [0, 1, 2, 4, 5] rfl (h343 x9 x11 x12 m10 D9))
                · refine z_iload (pc := 301) d_LW_goes_301 4 rfl ?_
                  refine z_bipush (pc := 303) d_LW_goes_303 kb_99 ?_
                  refine z_icmp_gt (pc := 305) (tgt := 343) d_LW_goes_305 (by decide) ?_ ?_
                  · refine z_kc (by omega) (by omega) (z_sub [0, 1, 2, 4, 5] rfl (h343 x9 x11 x12 m10 D9))
                  · refine z_aload_n (pc := 308) d_LW_goes_308 rfl 0 rfl ?_
                    refine z_aload_n (pc := 309) d_LW_goes_309 rfl 1 rfl ?_
                    refine z_iload (pc := 310) d_LW_goes_310 4 rfl ?_
                    refine z_callYA (pc := 312) (kc2 := 52) (ks2 := 312) [.ref r0, .ref r1, .int x11] lkS_LW_223 (c_LW_waits (m10, w) D9 r0 r1 x11) (by decide) (by omega) (by omega) rfl rfl (Nat.le_of_ble_eq_true rfl) d_LW_goes_312 (fun v61 D62 m63 => ?_)
                    refine z_if_eq (pc := 315) (tgt := 343) d_LW_goes_315 (by decide) ?_ ?_
                    · refine z_kc (by omega) (by omega) (z_sub [0, 1, 2, 4, 5] rfl (h343 x9 x11 x12 m63 D62))
                    · refine z_aload_n (pc := 318) d_LW_goes_318 rfl 0 rfl ?_
                      refine z_iconst (pc := 319) d_LW_goes_319 ki_2 ?_
                      refine z_iconst (pc := 320) d_LW_goes_320 ki_4 ?_
                      refine z_iconst (pc := 321) d_LW_goes_321 ki_0 ?_
                      refine z_iconst (pc := 322) d_LW_goes_322 ki_0 ?_
                      refine z_callYA (pc := 323) (kc2 := 51) (ks2 := 306) [.ref r0, .int (2 : Int32), .int (4 : Int32), .int (0 : Int32), .int (0 : Int32)] lkS_LW_156 (c_LW_call (m63, w) D62 r0 (2 : Int32) (4 : Int32) (0 : Int32) (0 : Int32)) (by decide) (by omega) (by omega) rfl rfl (Nat.le_of_ble_eq_true rfl) d_LW_goes_323 (fun v64 D65 m66 => ?_)
                      refine z_if_ne (pc := 326) (tgt := 343) d_LW_goes_326 (by decide) ?_ ?_
                      · refine z_aload_n (pc := 329) d_LW_goes_329 rfl 0 rfl ?_
                        refine z_aload_n (pc := 330) d_LW_goes_330 rfl 1 rfl ?_
                        refine z_iload (pc := 331) d_LW_goes_331 4 rfl ?_
                        refine z_callYA (pc := 333) (kc2 := 39) (ks2 := 234) [.ref r0, .ref r1, .int x11] lkS_LW_226 (c_LW_undoes (m66, w) D65 r0 r1 x11) (by decide) (by omega) (by omega) rfl rfl (Nat.le_of_ble_eq_true rfl) d_LW_goes_333 (fun v67 D68 m69 => ?_)
                        refine z_if_eq (pc := 336) (tgt := 343) d_LW_goes_336 (by decide) ?_ ?_
                        · refine z_kc (by omega) (by omega) (z_sub [0, 1, 2, 4, 5] rfl (h343 x9 x11 x12 m69 D68))
                        · refine z_iconst (pc := 339) d_LW_goes_339 ki_1 ?_
                          refine z_goto (pc := 340) (tgt := 344) d_LW_goes_340 (by decide) ?_
                          refine z_kc (by omega) (by omega) (z_sub [0, 1, 2, 4, 5] rfl (h344 x9 x11 x12 (1 : Int32) m69 D68))
                      · refine z_kc (by omega) (by omega) (z_sub [0, 1, 2, 4, 5] rfl (h343 x9 x11 x12 m66 D65))
          · refine z_iload (pc := 251) d_LW_goes_251 6 rfl ?_
            refine z_iload (pc := 253) d_LW_goes_253 5 rfl ?_
            refine z_icmp_ge (pc := 255) (tgt := 296) d_LW_goes_255 (by decide) ?_ ?_
            · refine z_kc (by omega) (by omega) (z_sub [0, 1, 2, 3, 4, 5] rfl (h296 x9 x10 x11 x12 m8 D7))
            · refine z_iload (pc := 258) d_LW_goes_258 3 rfl ?_
              refine z_if_eq (pc := 260) (tgt := 296) d_LW_goes_260 (by decide) ?_ ?_
              · refine z_kc (by omega) (by omega) (z_sub [0, 1, 2, 3, 4, 5] rfl (h296 x9 x10 x11 x12 m8 D7))
              · refine z_jp (fun j288 : Int32 → Int32 → Int32 → Int32 → Int32 → zD → Option (Int32 × zD) => ∀ (x9 : Int32) (x11 : Int32) (x12 : Int32) (x13 : Int32) (s0 : Int32) (m71 : Nat) (D70 : zD), zGO K Y_LW_goes 12 135 810 (zqY w) (j288 x9 x11 x12 x13 s0 D70) (n251 * 2 + 64) (n251 * 12 + 384) (m71, w) D70 288 [(0, .ref r0), (1, .ref r1), (9, .int x9), (11, .int x11), (12, .int x12), (13, .int x13)] [.int s0]) (fun x9 x11 x12 x13 s0 m71 D70 => ?_) (fun j288 h288 => ?_)
                · refine z_istore (pc := 288) d_LW_goes_288 (by decide) (lv' := [(10, .int s0), (0, .ref r0), (1, .ref r1), (9, .int x9), (11, .int x11), (12, .int x12), (13, .int x13)]) rfl ?_
                  refine z_iincL (pc := 290) d_LW_goes_290 ki_1 6 rfl (by decide) (fun v72 => z_lvc (lv2 := [(13, .int v72), (10, .int s0), (0, .ref r0), (1, .ref r1), (9, .int x9), (11, .int x11), (12, .int x12)]) rfl ?_)
                  refine z_goto (pc := 293) (tgt := 251) d_LW_goes_293 (by decide) ?_
                  refine z_kc (by omega) (by omega) (z_sub [2, 3, 4, 1, 5, 6, 0] rfl (h251 x9 s0 x11 x12 v72 m71 D70))
                · refine z_jp (fun j287 : Int32 → Int32 → Int32 → Int32 → zD → Option (Int32 × zD) => ∀ (x9 : Int32) (x11 : Int32) (x12 : Int32) (x13 : Int32) (m74 : Nat) (D73 : zD), zGO K Y_LW_goes 12 135 810 (zqY w) (j287 x9 x11 x12 x13 D73) (n251 * 2 + 64) (n251 * 12 + 384) (m74, w) D73 287 [(0, .ref r0), (1, .ref r1), (9, .int x9), (11, .int x11), (12, .int x12), (13, .int x13)] []) (fun x9 x11 x12 x13 m74 D73 => ?_) (fun j287 h287 => ?_)
                  · refine z_iconst (pc := 287) d_LW_goes_287 ki_0 ?_
                    refine z_kc (by omega) (by omega) (z_sub [0, 1, 2, 3, 4, 5] rfl (h288 x9 x11 x12 x13 (0 : Int32) m74 D73))
                  · refine z_aload_n (pc := 263) d_LW_goes_263 rfl 0 rfl ?_
                    refine z_iload (pc := 264) d_LW_goes_264 6 rfl ?_
                    refine z_iconst (pc := 266) d_LW_goes_266 ki_0 ?_
                    refine z_callYH (pc := 267) (kc2 := (n251 * 2 + 65)) (ks2 := (n251 * 12 + 390)) [.ref r0, .int x13, .int (0 : Int32)] lkH_LW_171 (c_LW_turned (m8, w) D7 r0 x13 (0 : Int32)) (by decide) (by omega) (by omega) rfl rfl (Nat.le_of_ble_eq_true rfl) d_LW_goes_267 (fun v75 D76 m77 => ?_)
                    refine z_if_lt (pc := 270) (tgt := 287) d_LW_goes_270 (by decide) ?_ ?_
                    · refine z_kc (by omega) (by omega) (z_sub [0, 1, 2, 4, 5, 6] rfl (h287 x9 x11 x12 x13 m77 D76))
                    · refine z_aload_n (pc := 273) d_LW_goes_273 rfl 1 rfl ?_
                      refine z_iload (pc := 274) d_LW_goes_274 6 rfl ?_
                      refine z_iconst (pc := 276) d_LW_goes_276 ki_0 ?_
                      refine z_callYH (pc := 277) (kc2 := (n251 * 2 + 64)) (ks2 := (n251 * 12 + 384)) [.ref r1, .int x13, .int (0 : Int32)] lkH_LW_171 (c_LW_turned (m77, w) D76 r1 x13 (0 : Int32)) (by decide) (by omega) (by omega) rfl rfl (Nat.le_of_ble_eq_true rfl) d_LW_goes_277 (fun v78 D79 m80 => ?_)
                      refine z_if_lt (pc := 280) (tgt := 287) d_LW_goes_280 (by decide) ?_ ?_
                      · refine z_kc (by omega) (by omega) (z_sub [0, 1, 2, 4, 5, 6] rfl (h287 x9 x11 x12 x13 m80 D79))
                      · refine z_iconst (pc := 283) d_LW_goes_283 ki_1 ?_
                        refine z_goto (pc := 284) (tgt := 288) d_LW_goes_284 (by decide) ?_
                        refine z_kc (by omega) (by omega) (z_sub [0, 1, 2, 4, 5, 6] rfl (h288 x9 x11 x12 x13 (1 : Int32) m80 D79))
        · refine z_aload_n (pc := 232) d_LW_goes_232 rfl 0 rfl ?_
          refine z_callVi (pc := 233) [] lkV_LW_188 rfl (c_SF_quietIn (m6, w) D5 r0 ) (by decide) rfl rfl (Nat.le_of_ble_eq_true rfl) d_LW_goes_233 (fun v81 D82 => ?_)
          refine z_istore (pc := 236) d_LW_goes_236 (by decide) (lv' := [(11, .int v81), (0, .ref r0), (1, .ref r1), (9, .int x9), (10, .int x10)]) rfl ?_
          refine z_aload_n (pc := 238) d_LW_goes_238 rfl 1 rfl ?_
          refine z_iconst (pc := 239) d_LW_goes_239 ki_2 ?_
          refine z_iconst (pc := 240) d_LW_goes_240 ki_0 ?_
          refine z_iconst (pc := 241) d_LW_goes_241 ki_0 ?_
          refine z_iconst (pc := 242) d_LW_goes_242 ki_0 ?_
          refine z_callYA (pc := 243) (kc2 := 76) (ks2 := 456) [.ref r0, .int (2 : Int32), .int (0 : Int32), .int (0 : Int32), .int (0 : Int32)] lkS_LW_156 (c_LW_call (m6, w) D82 r0 (2 : Int32) (0 : Int32) (0 : Int32) (0 : Int32)) (by decide) (by omega) (by omega) rfl rfl (Nat.le_of_ble_eq_true rfl) d_LW_goes_243 (fun v83 D84 m85 => ?_)
          refine z_istore (pc := 246) d_LW_goes_246 (by decide) (lv' := [(12, .int v83), (11, .int v81), (0, .ref r0), (1, .ref r1), (9, .int x9), (10, .int x10)]) rfl ?_
          refine z_iconst (pc := 248) d_LW_goes_248 ki_0 ?_
          refine z_istore (pc := 249) d_LW_goes_249 (by decide) (lv' := [(13, .int (0 : Int32)), (12, .int v83), (11, .int v81), (0, .ref r0), (1, .ref r1), (9, .int x9), (10, .int x10)]) rfl ?_
          refine z_kc (by omega) (by omega) (z_sub [3, 4, 5, 6, 2, 1, 0] rfl (h251 x9 x10 v81 v83 (0 : Int32) m85 D84))
      · refine z_istore (pc := 173) d_LW_goes_173 (by decide) (lv' := [(10, .int s0), (0, .ref r0), (1, .ref r1), (3, .int x3), (4, .int x4), (6, .int x6), (7, .int x7), (9, .int x9)]) rfl ?_
        refine z_iload (pc := 175) d_LW_goes_175 6 rfl ?_
        refine z_iconst (pc := 177) d_LW_goes_177 ki_1 ?_
        refine z_icmp_le (pc := 178) (tgt := 232) d_LW_goes_178 (by decide) ?_ ?_
        · refine z_kc (by omega) (by omega) (z_sub [1, 2, 7, 0] rfl (h232 x9 s0 m4 D3))
        · refine z_iload (pc := 181) d_LW_goes_181 0 rfl ?_
          refine z_if_eq (pc := 183) (tgt := 232) d_LW_goes_183 (by decide) ?_ ?_
          · refine z_kc (by omega) (by omega) (z_sub [1, 2, 7, 0] rfl (h232 x9 s0 m4 D3))
          · refine z_jp (fun j230 : Int32 → Int32 → zD → Option (Int32 × zD) => ∀ (x9 : Int32) (s0 : Int32) (m87 : Nat) (D86 : zD), zGO K Y_LW_goes 12 135 810 (zqY w) (j230 x9 s0 D86) 77 462 (m87, w) D86 230 [(0, .ref r0), (1, .ref r1), (9, .int x9)] [.int s0]) (fun x9 s0 m87 D86 => ?_) (fun j230 h230 => ?_)
            · refine z_istore (pc := 230) d_LW_goes_230 (by decide) (lv' := [(10, .int s0), (0, .ref r0), (1, .ref r1), (9, .int x9)]) rfl ?_
              refine z_kc (by omega) (by omega) (z_sub [1, 2, 3, 0] rfl (h232 x9 s0 m87 D86))
            · refine z_jp (fun j229 : Int32 → zD → Option (Int32 × zD) => ∀ (x9 : Int32) (m89 : Nat) (D88 : zD), zGO K Y_LW_goes 12 135 810 (zqY w) (j229 x9 D88) 77 462 (m89, w) D88 229 [(0, .ref r0), (1, .ref r1), (9, .int x9)] []) (fun x9 m89 D88 => ?_) (fun j229 h229 => ?_)
              · refine z_iconst (pc := 229) d_LW_goes_229 ki_0 ?_
                refine z_kc (by omega) (by omega) (z_sub [0, 1, 2] rfl (h230 x9 (0 : Int32) m89 D88))
              · refine z_aload_n (pc := 186) d_LW_goes_186 rfl 1 rfl ?_
                refine z_aload_n (pc := 187) d_LW_goes_187 rfl 2 rfl ?_
                refine z_iload (pc := 188) d_LW_goes_188 6 rfl ?_
                refine z_iconst (pc := 190) d_LW_goes_190 ki_1 ?_
                refine z_isub (pc := 191) d_LW_goes_191 ?_
                refine z_callYA (pc := 192) (kc2 := 90) (ks2 := 540) [.ref r0, .ref r1, .int (x7 - (1 : Int32))] lkS_LW_223 (c_LW_waits (m4, w) D3 r0 r1 (x7 - (1 : Int32))) (by decide) (by omega) (by omega) rfl rfl (Nat.le_of_ble_eq_true rfl) d_LW_goes_192 (fun v90 D91 m92 => ?_)
                refine z_if_eq (pc := 195) (tgt := 229) d_LW_goes_195 (by decide) ?_ ?_
                · refine z_kc (by omega) (by omega) (z_sub [1, 2, 7] rfl (h229 x9 m92 D91))
                · refine z_aload_n (pc := 198) d_LW_goes_198 rfl 1 rfl ?_
                  refine z_bipush (pc := 199) d_LW_goes_199 kb_7 ?_
                  refine z_iload_n (pc := 201) d_LW_goes_201 rfl 3 rfl ?_
                  refine z_iload (pc := 202) d_LW_goes_202 4 rfl ?_
                  refine z_iconst (pc := 204) d_LW_goes_204 ki_0 ?_
                  refine z_callYA (pc := 205) (kc2 := 89) (ks2 := 534) [.ref r0, .int (7 : Int32), .int x3, .int x4, .int (0 : Int32)] lkS_LW_156 (c_LW_call (m92, w) D91 r0 (7 : Int32) x3 x4 (0 : Int32)) (by decide) (by omega) (by omega) rfl rfl (Nat.le_of_ble_eq_true rfl) d_LW_goes_205 (fun v93 D94 m95 => ?_)
                  refine z_iload (pc := 208) d_LW_goes_208 5 rfl ?_
                  refine z_icmp_ne (pc := 210) (tgt := 229) d_LW_goes_210 (by decide) ?_ ?_
                  · refine z_aload_n (pc := 213) d_LW_goes_213 rfl 1 rfl ?_
                    refine z_aload_n (pc := 214) d_LW_goes_214 rfl 2 rfl ?_
                    refine z_iload (pc := 215) d_LW_goes_215 6 rfl ?_
                    refine z_iconst (pc := 217) d_LW_goes_217 ki_1 ?_
                    refine z_isub (pc := 218) d_LW_goes_218 ?_
                    refine z_callYA (pc := 219) (kc2 := 77) (ks2 := 462) [.ref r0, .ref r1, .int (x7 - (1 : Int32))] lkS_LW_226 (c_LW_undoes (m95, w) D94 r0 r1 (x7 - (1 : Int32))) (by decide) (by omega) (by omega) rfl rfl (Nat.le_of_ble_eq_true rfl) d_LW_goes_219 (fun v96 D97 m98 => ?_)
                    refine z_if_eq (pc := 222) (tgt := 229) d_LW_goes_222 (by decide) ?_ ?_
                    · refine z_kc (by omega) (by omega) (z_sub [1, 2, 7] rfl (h229 x9 m98 D97))
                    · refine z_iconst (pc := 225) d_LW_goes_225 ki_1 ?_
                      refine z_goto (pc := 226) (tgt := 230) d_LW_goes_226 (by decide) ?_
                      refine z_kc (by omega) (by omega) (z_sub [1, 2, 7] rfl (h230 x9 (1 : Int32) m98 D97))
                  · refine z_kc (by omega) (by omega) (z_sub [1, 2, 7] rfl (h229 x9 m95 D94))
    · refine z_jp (fun j172 : Int32 → Int32 → Int32 → Int32 → Int32 → zD → Option (Int32 × zD) => ∀ (x3 : Int32) (x4 : Int32) (x6 : Int32) (x7 : Int32) (x9 : Int32) (m100 : Nat) (D99 : zD), zGO K Y_LW_goes 12 135 810 (zqY w) (j172 x3 x4 x6 x7 x9 D99) 102 612 (m100, w) D99 172 [(0, .ref r0), (1, .ref r1), (3, .int x3), (4, .int x4), (6, .int x6), (7, .int x7), (9, .int x9)] []) (fun x3 x4 x6 x7 x9 m100 D99 => ?_) (fun j172 h172 => ?_)
      · refine z_iconst (pc := 172) d_LW_goes_172 ki_0 ?_
        refine z_kc (by omega) (by omega) (z_sub [0, 1, 2, 3, 4, 5, 6] rfl (h173 x3 x4 x6 x7 x9 (0 : Int32) m100 D99))
      · refine z_istore (pc := 63) d_LW_goes_63 (by decide) (lv' := [(7, .int s0), (0, .ref r0), (1, .ref r1), (3, .int x3), (4, .int x4), (5, .int x5), (6, .int x6)]) rfl ?_
        refine z_aload_n (pc := 65) d_LW_goes_65 rfl 1 rfl ?_
        refine z_bipush (pc := 66) d_LW_goes_66 kb_12 ?_
        refine z_iload (pc := 68) d_LW_goes_68 4 rfl ?_
        refine z_iload (pc := 70) d_LW_goes_70 0 rfl ?_
        refine z_iconst (pc := 72) d_LW_goes_72 ki_1 ?_
        refine z_callYA (pc := 73) (kc2 := 130) (ks2 := 780) [.ref r0, .int (12 : Int32), .int x4, .int s0, .int (1 : Int32)] lkS_LW_156 (c_LW_call (m2, w) D1 r0 (12 : Int32) x4 s0 (1 : Int32)) (by decide) (by omega) (by omega) rfl rfl (Nat.le_of_ble_eq_true rfl) d_LW_goes_73 (fun v101 D102 m103 => ?_)
        refine z_istore (pc := 76) d_LW_goes_76 (by decide) (lv' := [(8, .int v101), (7, .int s0), (0, .ref r0), (1, .ref r1), (3, .int x3), (4, .int x4), (5, .int x5), (6, .int x6)]) rfl ?_
        refine z_aload_n (pc := 78) d_LW_goes_78 rfl 2 rfl ?_
        refine z_iconst (pc := 79) d_LW_goes_79 ki_2 ?_
        refine z_bipush (pc := 80) d_LW_goes_80 kb_6 ?_
        refine z_iconst (pc := 82) d_LW_goes_82 ki_0 ?_
        refine z_iconst (pc := 83) d_LW_goes_83 ki_0 ?_
        refine z_callYA (pc := 84) (kc2 := 129) (ks2 := 774) [.ref r0, .int (2 : Int32), .int (6 : Int32), .int (0 : Int32), .int (0 : Int32)] lkS_LW_156 (c_LW_call (m103, w) D102 r0 (2 : Int32) (6 : Int32) (0 : Int32) (0 : Int32)) (by decide) (by omega) (by omega) rfl rfl (Nat.le_of_ble_eq_true rfl) d_LW_goes_84 (fun v104 D105 m106 => ?_)
        refine z_aload_n (pc := 87) d_LW_goes_87 rfl 2 rfl ?_
        refine z_iconst (pc := 88) d_LW_goes_88 ki_2 ?_
        refine z_bipush (pc := 89) d_LW_goes_89 kb_7 ?_
        refine z_iconst (pc := 91) d_LW_goes_91 ki_0 ?_
        refine z_iconst (pc := 92) d_LW_goes_92 ki_0 ?_
        refine z_callYA (pc := 93) (kc2 := 128) (ks2 := 768) [.ref r0, .int (2 : Int32), .int (7 : Int32), .int (0 : Int32), .int (0 : Int32)] lkS_LW_156 (c_LW_call (m106, w) D105 r0 (2 : Int32) (7 : Int32) (0 : Int32) (0 : Int32)) (by decide) (by omega) (by omega) rfl rfl (Nat.le_of_ble_eq_true rfl) d_LW_goes_93 (fun v107 D108 m109 => ?_)
        refine z_iadd (pc := 96) d_LW_goes_96 ?_
        refine z_leti (fun v110 => ?_)
        refine z_istore (pc := 97) d_LW_goes_97 (by decide) (lv' := [(9, .int v110), (8, .int v101), (7, .int s0), (0, .ref r0), (1, .ref r1), (3, .int x3), (4, .int x4), (5, .int x5), (6, .int x6)]) rfl ?_
        refine z_aload_n (pc := 99) d_LW_goes_99 rfl 3 rfl ?_
        refine z_aload_n (pc := 100) d_LW_goes_100 rfl 4 rfl ?_
        refine z_iload (pc := 101) d_LW_goes_101 2 rfl ?_
        refine z_callYA (pc := 103) (kc2 := 116) (ks2 := 696) [.ref r0, .ref r1, .int s0] lkS_LW_223 (c_LW_waits (m109, w) D108 r0 r1 s0) (by decide) (by omega) (by omega) rfl rfl (Nat.le_of_ble_eq_true rfl) d_LW_goes_103 (fun v111 D112 m113 => ?_)
        refine z_if_eq (pc := 106) (tgt := 172) d_LW_goes_106 (by decide) ?_ ?_
        · refine z_kc (by omega) (by omega) (z_sub [3, 4, 5, 6, 8, 2, 0] rfl (h172 x3 x4 x6 s0 v110 m113 D112))
        · refine z_jp (fun j129 : Int32 → Int32 → Int32 → Int32 → Int32 → Int32 → Int32 → Int32 → zD → Option (Int32 × zD) => ∀ (x3 : Int32) (x4 : Int32) (x5 : Int32) (x6 : Int32) (x7 : Int32) (x8 : Int32) (x9 : Int32) (s0 : Int32) (m115 : Nat) (D114 : zD), zGO K Y_LW_goes 12 135 810 (zqY w) (j129 x3 x4 x5 x6 x7 x8 x9 s0 D114) 115 690 (m115, w) D114 129 [(0, .ref r0), (1, .ref r1), (3, .int x3), (4, .int x4), (5, .int x5), (6, .int x6), (7, .int x7), (8, .int x8), (9, .int x9)] [.int s0]) (fun x3 x4 x5 x6 x7 x8 x9 s0 m115 D114 => ?_) (fun j129 h129 => ?_)
          · refine z_jp (fun j140 : Int32 → Int32 → Int32 → Int32 → Int32 → Int32 → Int32 → Int32 → zD → Option (Int32 × zD) => ∀ (x3 : Int32) (x4 : Int32) (x6 : Int32) (x7 : Int32) (x8 : Int32) (x9 : Int32) (s0 : Int32) (s1 : Int32) (m117 : Nat) (D116 : zD), zGO K Y_LW_goes 12 135 810 (zqY w) (j140 x3 x4 x6 x7 x8 x9 s0 s1 D116) 115 690 (m117, w) D116 140 [(0, .ref r0), (1, .ref r1), (3, .int x3), (4, .int x4), (6, .int x6), (7, .int x7), (8, .int x8), (9, .int x9)] [.int s1, .int s0]) (fun x3 x4 x6 x7 x8 x9 s0 s1 m117 D116 => ?_) (fun j140 h140 => ?_)
            · refine z_icmp_ne (pc := 140) (tgt := 172) d_LW_goes_140 (by decide) ?_ ?_
              · refine z_aload_n (pc := 143) d_LW_goes_143 rfl 0 rfl ?_
                refine z_iconst (pc := 144) d_LW_goes_144 ki_3 ?_
                refine z_iload (pc := 145) d_LW_goes_145 3 rfl ?_
                refine z_bipush (pc := 147) d_LW_goes_147 kb_6 ?_
                refine z_iconst (pc := 149) d_LW_goes_149 ki_0 ?_
                refine z_callYA (pc := 150) (kc2 := 114) (ks2 := 684) [.ref r0, .int (3 : Int32), .int x4, .int (6 : Int32), .int (0 : Int32)] lkS_LW_156 (c_LW_call (m117, w) D116 r0 (3 : Int32) x4 (6 : Int32) (0 : Int32)) (by decide) (by omega) (by omega) rfl rfl (Nat.le_of_ble_eq_true rfl) d_LW_goes_150 (fun v118 D119 m120 => ?_)
                refine z_iload (pc := 153) d_LW_goes_153 6 rfl ?_
                refine z_icmp_ne (pc := 155) (tgt := 172) d_LW_goes_155 (by decide) ?_ ?_
                · refine z_aload_n (pc := 158) d_LW_goes_158 rfl 0 rfl ?_
                  refine z_aload_n (pc := 159) d_LW_goes_159 rfl 1 rfl ?_
                  refine z_iload (pc := 160) d_LW_goes_160 5 rfl ?_
                  refine z_callYA (pc := 162) (kc2 := 102) (ks2 := 612) [.ref r0, .ref r1, .int x7] lkS_LW_226 (c_LW_undoes (m120, w) D119 r0 r1 x7) (by decide) (by omega) (by omega) rfl rfl (Nat.le_of_ble_eq_true rfl) d_LW_goes_162 (fun v121 D122 m123 => ?_)
                  refine z_if_eq (pc := 165) (tgt := 172) d_LW_goes_165 (by decide) ?_ ?_
                  · refine z_kc (by omega) (by omega) (z_sub [0, 1, 2, 3, 4, 5, 7] rfl (h172 x3 x4 x6 x7 x9 m123 D122))
                  · refine z_iconst (pc := 168) d_LW_goes_168 ki_1 ?_
                    refine z_goto (pc := 169) (tgt := 173) d_LW_goes_169 (by decide) ?_
                    refine z_kc (by omega) (by omega) (z_sub [0, 1, 2, 3, 4, 5, 7] rfl (h173 x3 x4 x6 x7 x9 (1 : Int32) m123 D122))
                · refine z_kc (by omega) (by omega) (z_sub [0, 1, 2, 3, 4, 5, 7] rfl (h172 x3 x4 x6 x7 x9 m120 D119))
              · refine z_kc (by omega) (by omega) (z_sub [0, 1, 2, 3, 4, 5, 7] rfl (h172 x3 x4 x6 x7 x9 m117 D116))
            · refine z_iload (pc := 129) d_LW_goes_129 4 rfl ?_
              refine z_iconst (pc := 131) d_LW_goes_131 ki_m1 ?_
              refine z_icmp_eq (pc := 132) (tgt := 139) d_LW_goes_132 (by decide) ?_ ?_
              · refine z_iconst (pc := 139) d_LW_goes_139 ki_0 ?_
                refine z_kc (by omega) (by omega) (z_sub [0, 1, 2, 3, 5, 6, 7, 8] rfl (h140 x3 x4 x6 x7 x8 x9 s0 (0 : Int32) m115 D114))
              · refine z_iconst (pc := 135) d_LW_goes_135 ki_1 ?_
                refine z_goto (pc := 136) (tgt := 140) d_LW_goes_136 (by decide) ?_
                refine z_kc (by omega) (by omega) (z_sub [0, 1, 2, 3, 5, 6, 7, 8] rfl (h140 x3 x4 x6 x7 x8 x9 s0 (1 : Int32) m115 D114))
          · refine z_aload_n (pc := 109) d_LW_goes_109 rfl 3 rfl ?_
            refine z_bipush (pc := 110) d_LW_goes_110 kb_7 ?_
            refine z_iload_n (pc := 112) d_LW_goes_112 rfl 5 rfl ?_
            refine z_iload (pc := 113) d_LW_goes_113 6 rfl ?_
            refine z_iconst (pc := 115) d_LW_goes_115 ki_0 ?_
            refine z_callYA (pc := 116) (kc2 := 115) (ks2 := 690) [.ref r0, .int (7 : Int32), .int x3, .int x4, .int (0 : Int32)] lkS_LW_156 (c_LW_call (m113, w) D112 r0 (7 : Int32) x3 x4 (0 : Int32)) (by decide) (by omega) (by omega) rfl rfl (Nat.le_of_ble_eq_true rfl) d_LW_goes_116 (fun v124 D125 m126 => ?_)
            refine z_iload (pc := 119) d_LW_goes_119 8 rfl ?_
            refine z_icmp_le (pc := 121) (tgt := 128) d_LW_goes_121 (by decide) ?_ ?_
            · refine z_iconst (pc := 128) d_LW_goes_128 ki_0 ?_
              refine z_kc (by omega) (by omega) (z_sub [3, 4, 5, 6, 7, 8, 2, 1, 0] rfl (h129 x3 x4 x5 x6 s0 v101 v110 (0 : Int32) m126 D125))
            · refine z_iconst (pc := 124) d_LW_goes_124 ki_1 ?_
              refine z_goto (pc := 125) (tgt := 129) d_LW_goes_125 (by decide) ?_
              refine z_kc (by omega) (by omega) (z_sub [3, 4, 5, 6, 7, 8, 2, 1, 0] rfl (h129 x3 x4 x5 x6 s0 v101 v110 (1 : Int32) m126 D125))
  · refine z_iload_n (pc := 0) d_LW_goes_0 rfl 2 rfl ?_
    refine z_aload_n (pc := 1) d_LW_goes_1 rfl 0 rfl ?_
    refine z_iconst (pc := 2) d_LW_goes_2 ki_2 ?_
    refine z_iconst (pc := 3) d_LW_goes_3 ki_1 ?_
    refine z_iconst (pc := 4) d_LW_goes_4 ki_0 ?_
    refine z_iconst (pc := 5) d_LW_goes_5 ki_0 ?_
    refine z_callYA (pc := 6) (kc2 := 134) (ks2 := 804) [.ref r0, .int (2 : Int32), .int (1 : Int32), .int (0 : Int32), .int (0 : Int32)] lkS_LW_156 (c_LW_call (n0, w) D r0 (2 : Int32) (1 : Int32) (0 : Int32) (0 : Int32)) (by decide) (by omega) (by omega) rfl rfl (Nat.le_of_ble_eq_true rfl) d_LW_goes_6 (fun v127 D128 m129 => ?_)
    refine z_irem (pc := 9) d_LW_goes_9 ?_
    refine z_leti (fun v130 => ?_)
    refine z_istore_n (pc := 10) d_LW_goes_10 rfl (by decide) (lv' := [(3, .int v130), (0, .ref r0), (1, .ref r1), (2, .int x2)]) rfl ?_
    refine z_iload_n (pc := 11) d_LW_goes_11 rfl 3 rfl ?_
    refine z_iconst (pc := 12) d_LW_goes_12 ki_4 ?_
    refine z_idivK (pc := 13) d_LW_goes_13 (by decide) ?_
    refine z_aload_n (pc := 14) d_LW_goes_14 rfl 1 rfl ?_
    refine z_iconst (pc := 15) d_LW_goes_15 ki_2 ?_
    refine z_iconst (pc := 16) d_LW_goes_16 ki_0 ?_
    refine z_iconst (pc := 17) d_LW_goes_17 ki_0 ?_
    refine z_iconst (pc := 18) d_LW_goes_18 ki_0 ?_
    refine z_callYA (pc := 19) (kc2 := 133) (ks2 := 798) [.ref r0, .int (2 : Int32), .int (0 : Int32), .int (0 : Int32), .int (0 : Int32)] lkS_LW_156 (c_LW_call (m129, w) D128 r0 (2 : Int32) (0 : Int32) (0 : Int32) (0 : Int32)) (by decide) (by omega) (by omega) rfl rfl (Nat.le_of_ble_eq_true rfl) d_LW_goes_19 (fun v131 D132 m133 => ?_)
    refine z_irem (pc := 22) d_LW_goes_22 ?_
    refine z_leti (fun v134 => ?_)
    refine z_istore (pc := 23) d_LW_goes_23 (by decide) (lv' := [(4, .int v134), (3, .int v130), (0, .ref r0), (1, .ref r1), (2, .int x2)]) rfl ?_
    refine z_aload_n (pc := 25) d_LW_goes_25 rfl 2 rfl ?_
    refine z_bipush (pc := 26) d_LW_goes_26 kb_13 ?_
    refine z_iload_n (pc := 28) d_LW_goes_28 rfl 1 rfl ?_
    refine z_iload (pc := 29) d_LW_goes_29 0 rfl ?_
    refine z_iconst (pc := 31) d_LW_goes_31 ki_0 ?_
    refine z_callYA (pc := 32) (kc2 := 132) (ks2 := 792) [.ref r0, .int (13 : Int32), .int v130, .int v134, .int (0 : Int32)] lkS_LW_156 (c_LW_call (m133, w) D132 r0 (13 : Int32) v130 v134 (0 : Int32)) (by decide) (by omega) (by omega) rfl rfl (Nat.le_of_ble_eq_true rfl) d_LW_goes_32 (fun v135 D136 m137 => ?_)
    refine z_istore (pc := 35) d_LW_goes_35 (by decide) (lv' := [(5, .int v135), (4, .int v134), (3, .int v130), (0, .ref r0), (1, .ref r1), (2, .int x2)]) rfl ?_
    refine z_aload_n (pc := 37) d_LW_goes_37 rfl 3 rfl ?_
    refine z_bipush (pc := 38) d_LW_goes_38 kb_7 ?_
    refine z_iload_n (pc := 40) d_LW_goes_40 rfl 2 rfl ?_
    refine z_iload (pc := 41) d_LW_goes_41 1 rfl ?_
    refine z_iconst (pc := 43) d_LW_goes_43 ki_0 ?_
    refine z_callYA (pc := 44) (kc2 := 131) (ks2 := 786) [.ref r0, .int (7 : Int32), .int v130, .int v134, .int (0 : Int32)] lkS_LW_156 (c_LW_call (m137, w) D136 r0 (7 : Int32) v130 v134 (0 : Int32)) (by decide) (by omega) (by omega) rfl rfl (Nat.le_of_ble_eq_true rfl) d_LW_goes_44 (fun v138 D139 m140 => ?_)
    refine z_istore (pc := 47) d_LW_goes_47 (by decide) (lv' := [(6, .int v138), (5, .int v135), (4, .int v134), (3, .int v130), (0, .ref r0), (1, .ref r1), (2, .int x2)]) rfl ?_
    refine z_iload (pc := 49) d_LW_goes_49 1 rfl ?_
    refine z_iconst (pc := 51) d_LW_goes_51 ki_m1 ?_
    refine z_icmp_ne (pc := 52) (tgt := 61) d_LW_goes_52 (by decide) ?_ ?_
    · refine z_sipush (pc := 55) d_LW_goes_55 ks_200 ?_
      refine z_goto (pc := 58) (tgt := 63) d_LW_goes_58 (by decide) ?_
      refine z_kc (by omega) (by omega) (z_sub [4, 5, 3, 2, 1, 0] rfl (h63 v130 v134 v135 v138 (200 : Int32) m140 D139))
    · refine z_iload (pc := 61) d_LW_goes_61 1 rfl ?_
      refine z_kc (by omega) (by omega) (z_sub [4, 5, 3, 2, 1, 0] rfl (h63 v130 v134 v135 v138 v135 m140 D139))
