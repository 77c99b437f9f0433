theorem kb_11 : (Int8.ofInt (11)).toInt32 = (11 : Int32) := by decide +kernel
theorem ks_18605 : (Int16.ofInt (18605)).toInt32 = (18605 : Int32) := by decide +kernel
theorem ks_3721 : (Int16.ofInt (3721)).toInt32 = (3721 : Int32) := by decide +kernel
theorem ks_6561 : (Int16.ofInt (6561)).toInt32 = (6561 : Int32) := by decide +kernel
def Y_LW_act : zY := (⟨"SirenFairLaw", "act", "(LSirenFair;I)I"⟩, method_31_code, 3, some .int, [])
theorem w_k_LW_191 : Cond.constant "SirenFairLaw" 191 (130235) ∈ zWd := zin 951 (by decide +kernel) rfl
theorem w_k_LW_192 : Cond.constant "SirenFairLaw" 192 (32805) ∈ zWd := zin 952 (by decide +kernel) rfl
theorem d_LW_act_0 : decode Y_LW_act.2.1 0 = .ok (.iload_n 1, 1) := by decide +kernel
theorem d_LW_act_1 : decode Y_LW_act.2.1 1 = .ok (.bipush (16), 2) := by decide +kernel
theorem d_LW_act_3 : decode Y_LW_act.2.1 3 = .ok (.idiv, 1) := by decide +kernel
theorem d_LW_act_4 : decode Y_LW_act.2.1 4 = .ok (.istore_n 2, 1) := by decide +kernel
theorem d_LW_act_5 : decode Y_LW_act.2.1 5 = .ok (.iload_n 1, 1) := by decide +kernel
theorem d_LW_act_6 : decode Y_LW_act.2.1 6 = .ok (.bipush (16), 2) := by decide +kernel
theorem d_LW_act_8 : decode Y_LW_act.2.1 8 = .ok (.irem, 1) := by decide +kernel
theorem d_LW_act_9 : decode Y_LW_act.2.1 9 = .ok (.tableswitch (321) 0 9 #[(55), (105), (144), (169), (169), (197), (229), (244), (259), (285)], 55) := by decide +kernel
theorem d_LW_act_64 : decode Y_LW_act.2.1 64 = .ok (.aload_n 0, 1) := by decide +kernel
theorem d_LW_act_65 : decode Y_LW_act.2.1 65 = .ok (.iload_n 2, 1) := by decide +kernel
theorem d_LW_act_66 : decode Y_LW_act.2.1 66 = .ok (.bipush (61), 2) := by decide +kernel
theorem d_LW_act_68 : decode Y_LW_act.2.1 68 = .ok (.irem, 1) := by decide +kernel
theorem d_LW_act_69 : decode Y_LW_act.2.1 69 = .ok (.bipush (30), 2) := by decide +kernel
theorem d_LW_act_71 : decode Y_LW_act.2.1 71 = .ok (.isub, 1) := by decide +kernel
theorem d_LW_act_72 : decode Y_LW_act.2.1 72 = .ok (.iload_n 2, 1) := by decide +kernel
theorem d_LW_act_73 : decode Y_LW_act.2.1 73 = .ok (.bipush (61), 2) := by decide +kernel
theorem d_LW_act_75 : decode Y_LW_act.2.1 75 = .ok (.idiv, 1) := by decide +kernel
theorem d_LW_act_76 : decode Y_LW_act.2.1 76 = .ok (.bipush (61), 2) := by decide +kernel
theorem d_LW_act_78 : decode Y_LW_act.2.1 78 = .ok (.irem, 1) := by decide +kernel
theorem d_LW_act_79 : decode Y_LW_act.2.1 79 = .ok (.bipush (30), 2) := by decide +kernel
theorem d_LW_act_81 : decode Y_LW_act.2.1 81 = .ok (.isub, 1) := by decide +kernel
theorem d_LW_act_82 : decode Y_LW_act.2.1 82 = .ok (.iconst (1), 1) := by decide +kernel
theorem d_LW_act_83 : decode Y_LW_act.2.1 83 = .ok (.iload_n 2, 1) := by decide +kernel
theorem d_LW_act_84 : decode Y_LW_act.2.1 84 = .ok (.sipush (3721), 3) := by decide +kernel
theorem d_LW_act_87 : decode Y_LW_act.2.1 87 = .ok (.idiv, 1) := by decide +kernel
theorem d_LW_act_88 : decode Y_LW_act.2.1 88 = .ok (.iconst (5), 1) := by decide +kernel
theorem d_LW_act_89 : decode Y_LW_act.2.1 89 = .ok (.irem, 1) := by decide +kernel
theorem d_LW_act_90 : decode Y_LW_act.2.1 90 = .ok (.iadd, 1) := by decide +kernel
theorem d_LW_act_91 : decode Y_LW_act.2.1 91 = .ok (.iload_n 2, 1) := by decide +kernel
theorem d_LW_act_92 : decode Y_LW_act.2.1 92 = .ok (.sipush (18605), 3) := by decide +kernel
theorem d_LW_act_95 : decode Y_LW_act.2.1 95 = .ok (.idiv, 1) := by decide +kernel
theorem d_LW_act_96 : decode Y_LW_act.2.1 96 = .ok (.bipush (7), 2) := by decide +kernel
theorem d_LW_act_98 : decode Y_LW_act.2.1 98 = .ok (.irem, 1) := by decide +kernel
theorem d_LW_act_99 : decode Y_LW_act.2.1 99 = .ok (.iconst (3), 1) := by decide +kernel
theorem d_LW_act_100 : decode Y_LW_act.2.1 100 = .ok (.isub, 1) := by decide +kernel
theorem d_LW_act_101 : decode Y_LW_act.2.1 101 = .ok (.iconst (1), 1) := by decide +kernel
theorem d_LW_act_102 : decode Y_LW_act.2.1 102 = .ok (.iload_n 2, 1) := by decide +kernel
theorem d_LW_act_103 : decode Y_LW_act.2.1 103 = .ok (.ldc 191, 2) := by decide +kernel
theorem d_LW_act_105 : decode Y_LW_act.2.1 105 = .ok (.idiv, 1) := by decide +kernel
theorem d_LW_act_106 : decode Y_LW_act.2.1 106 = .ok (.bipush (20), 2) := by decide +kernel
theorem d_LW_act_108 : decode Y_LW_act.2.1 108 = .ok (.irem, 1) := by decide +kernel
theorem d_LW_act_109 : decode Y_LW_act.2.1 109 = .ok (.iadd, 1) := by decide +kernel
theorem d_LW_act_110 : decode Y_LW_act.2.1 110 = .ok (.invokestatic 160, 3) := by decide +kernel
theorem d_LW_act_113 : decode Y_LW_act.2.1 113 = .ok (.ireturn, 1) := by decide +kernel
theorem d_LW_act_114 : decode Y_LW_act.2.1 114 = .ok (.aload_n 0, 1) := by decide +kernel
theorem d_LW_act_115 : decode Y_LW_act.2.1 115 = .ok (.iload_n 2, 1) := by decide +kernel
theorem d_LW_act_116 : decode Y_LW_act.2.1 116 = .ok (.bipush (81), 2) := by decide +kernel
theorem d_LW_act_118 : decode Y_LW_act.2.1 118 = .ok (.irem, 1) := by decide +kernel
theorem d_LW_act_119 : decode Y_LW_act.2.1 119 = .ok (.bipush (40), 2) := by decide +kernel
theorem d_LW_act_121 : decode Y_LW_act.2.1 121 = .ok (.isub, 1) := by decide +kernel
theorem d_LW_act_122 : decode Y_LW_act.2.1 122 = .ok (.iload_n 2, 1) := by decide +kernel
theorem d_LW_act_123 : decode Y_LW_act.2.1 123 = .ok (.bipush (81), 2) := by decide +kernel
theorem d_LW_act_125 : decode Y_LW_act.2.1 125 = .ok (.idiv, 1) := by decide +kernel
theorem d_LW_act_126 : decode Y_LW_act.2.1 126 = .ok (.bipush (81), 2) := by decide +kernel
theorem d_LW_act_128 : decode Y_LW_act.2.1 128 = .ok (.irem, 1) := by decide +kernel
theorem d_LW_act_129 : decode Y_LW_act.2.1 129 = .ok (.bipush (40), 2) := by decide +kernel
theorem d_LW_act_131 : decode Y_LW_act.2.1 131 = .ok (.isub, 1) := by decide +kernel
theorem d_LW_act_132 : decode Y_LW_act.2.1 132 = .ok (.iload_n 2, 1) := by decide +kernel
theorem d_LW_act_133 : decode Y_LW_act.2.1 133 = .ok (.sipush (6561), 3) := by decide +kernel
theorem d_LW_act_136 : decode Y_LW_act.2.1 136 = .ok (.idiv, 1) := by decide +kernel
theorem d_LW_act_137 : decode Y_LW_act.2.1 137 = .ok (.iconst (5), 1) := by decide +kernel
theorem d_LW_act_138 : decode Y_LW_act.2.1 138 = .ok (.irem, 1) := by decide +kernel
theorem d_LW_act_139 : decode Y_LW_act.2.1 139 = .ok (.iconst (2), 1) := by decide +kernel
theorem d_LW_act_140 : decode Y_LW_act.2.1 140 = .ok (.isub, 1) := by decide +kernel
theorem d_LW_act_141 : decode Y_LW_act.2.1 141 = .ok (.iload_n 2, 1) := by decide +kernel
theorem d_LW_act_142 : decode Y_LW_act.2.1 142 = .ok (.ldc 192, 2) := by decide +kernel
theorem d_LW_act_144 : decode Y_LW_act.2.1 144 = .ok (.idiv, 1) := by decide +kernel
theorem d_LW_act_145 : decode Y_LW_act.2.1 145 = .ok (.iconst (5), 1) := by decide +kernel
theorem d_LW_act_146 : decode Y_LW_act.2.1 146 = .ok (.irem, 1) := by decide +kernel
theorem d_LW_act_147 : decode Y_LW_act.2.1 147 = .ok (.iconst (2), 1) := by decide +kernel
theorem d_LW_act_148 : decode Y_LW_act.2.1 148 = .ok (.isub, 1) := by decide +kernel
theorem d_LW_act_149 : decode Y_LW_act.2.1 149 = .ok (.invokestatic 164, 3) := by decide +kernel
theorem d_LW_act_152 : decode Y_LW_act.2.1 152 = .ok (.ireturn, 1) := by decide +kernel
theorem d_LW_act_153 : decode Y_LW_act.2.1 153 = .ok (.aload_n 0, 1) := by decide +kernel
theorem d_LW_act_154 : decode Y_LW_act.2.1 154 = .ok (.iload_n 2, 1) := by decide +kernel
theorem d_LW_act_155 : decode Y_LW_act.2.1 155 = .ok (.iconst (2), 1) := by decide +kernel
theorem d_LW_act_156 : decode Y_LW_act.2.1 156 = .ok (.irem, 1) := by decide +kernel
theorem d_LW_act_157 : decode Y_LW_act.2.1 157 = .ok (.ifCond .ne (7), 3) := by decide +kernel
theorem d_LW_act_160 : decode Y_LW_act.2.1 160 = .ok (.iconst (1), 1) := by decide +kernel
theorem d_LW_act_161 : decode Y_LW_act.2.1 161 = .ok (.goto (4), 3) := by decide +kernel
theorem d_LW_act_164 : decode Y_LW_act.2.1 164 = .ok (.iconst (0), 1) := by decide +kernel
theorem d_LW_act_165 : decode Y_LW_act.2.1 165 = .ok (.iload_n 2, 1) := by decide +kernel
theorem d_LW_act_166 : decode Y_LW_act.2.1 166 = .ok (.iconst (2), 1) := by decide +kernel
theorem d_LW_act_167 : decode Y_LW_act.2.1 167 = .ok (.idiv, 1) := by decide +kernel
theorem d_LW_act_168 : decode Y_LW_act.2.1 168 = .ok (.bipush (81), 2) := by decide +kernel
theorem d_LW_act_170 : decode Y_LW_act.2.1 170 = .ok (.irem, 1) := by decide +kernel
theorem d_LW_act_171 : decode Y_LW_act.2.1 171 = .ok (.bipush (40), 2) := by decide +kernel
theorem d_LW_act_173 : decode Y_LW_act.2.1 173 = .ok (.isub, 1) := by decide +kernel
theorem d_LW_act_174 : decode Y_LW_act.2.1 174 = .ok (.invokestatic 167, 3) := by decide +kernel
theorem d_LW_act_177 : decode Y_LW_act.2.1 177 = .ok (.ireturn, 1) := by decide +kernel
theorem d_LW_act_178 : decode Y_LW_act.2.1 178 = .ok (.aload_n 0, 1) := by decide +kernel
theorem d_LW_act_179 : decode Y_LW_act.2.1 179 = .ok (.iload_n 2, 1) := by decide +kernel
theorem d_LW_act_180 : decode Y_LW_act.2.1 180 = .ok (.aload_n 0, 1) := by decide +kernel
theorem d_LW_act_181 : decode Y_LW_act.2.1 181 = .ok (.iconst (2), 1) := by decide +kernel
theorem d_LW_act_182 : decode Y_LW_act.2.1 182 = .ok (.iconst (0), 1) := by decide +kernel
theorem d_LW_act_183 : decode Y_LW_act.2.1 183 = .ok (.iconst (0), 1) := by decide +kernel
theorem d_LW_act_184 : decode Y_LW_act.2.1 184 = .ok (.iconst (0), 1) := by decide +kernel
theorem d_LW_act_185 : decode Y_LW_act.2.1 185 = .ok (.invokestatic 156, 3) := by decide +kernel
theorem d_LW_act_188 : decode Y_LW_act.2.1 188 = .ok (.irem, 1) := by decide +kernel
theorem d_LW_act_189 : decode Y_LW_act.2.1 189 = .ok (.iload_n 2, 1) := by decide +kernel
theorem d_LW_act_190 : decode Y_LW_act.2.1 190 = .ok (.iconst (4), 1) := by decide +kernel
theorem d_LW_act_191 : decode Y_LW_act.2.1 191 = .ok (.idiv, 1) := by decide +kernel
theorem d_LW_act_192 : decode Y_LW_act.2.1 192 = .ok (.iconst (3), 1) := by decide +kernel
theorem d_LW_act_193 : decode Y_LW_act.2.1 193 = .ok (.irem, 1) := by decide +kernel
theorem d_LW_act_194 : decode Y_LW_act.2.1 194 = .ok (.ifCond .le (7), 3) := by decide +kernel
theorem d_LW_act_197 : decode Y_LW_act.2.1 197 = .ok (.iconst (1), 1) := by decide +kernel
theorem d_LW_act_198 : decode Y_LW_act.2.1 198 = .ok (.goto (4), 3) := by decide +kernel
theorem d_LW_act_201 : decode Y_LW_act.2.1 201 = .ok (.iconst (0), 1) := by decide +kernel
theorem d_LW_act_202 : decode Y_LW_act.2.1 202 = .ok (.invokestatic 171, 3) := by decide +kernel
theorem d_LW_act_205 : decode Y_LW_act.2.1 205 = .ok (.ireturn, 1) := by decide +kernel
theorem d_LW_act_206 : decode Y_LW_act.2.1 206 = .ok (.aload_n 0, 1) := by decide +kernel
theorem d_LW_act_207 : decode Y_LW_act.2.1 207 = .ok (.bipush (8), 2) := by decide +kernel
theorem d_LW_act_209 : decode Y_LW_act.2.1 209 = .ok (.iload_n 2, 1) := by decide +kernel
theorem d_LW_act_210 : decode Y_LW_act.2.1 210 = .ok (.aload_n 0, 1) := by decide +kernel
theorem d_LW_act_211 : decode Y_LW_act.2.1 211 = .ok (.iconst (2), 1) := by decide +kernel
theorem d_LW_act_212 : decode Y_LW_act.2.1 212 = .ok (.iconst (1), 1) := by decide +kernel
theorem d_LW_act_213 : decode Y_LW_act.2.1 213 = .ok (.iconst (0), 1) := by decide +kernel
theorem d_LW_act_214 : decode Y_LW_act.2.1 214 = .ok (.iconst (0), 1) := by decide +kernel
theorem d_LW_act_215 : decode Y_LW_act.2.1 215 = .ok (.invokestatic 156, 3) := by decide +kernel
theorem d_LW_act_218 : decode Y_LW_act.2.1 218 = .ok (.irem, 1) := by decide +kernel
theorem d_LW_act_219 : decode Y_LW_act.2.1 219 = .ok (.iload_n 2, 1) := by decide +kernel
theorem d_LW_act_220 : decode Y_LW_act.2.1 220 = .ok (.iconst (4), 1) := by decide +kernel
theorem d_LW_act_221 : decode Y_LW_act.2.1 221 = .ok (.idiv, 1) := by decide +kernel
theorem d_LW_act_222 : decode Y_LW_act.2.1 222 = .ok (.iconst (5), 1) := by decide +kernel
theorem d_LW_act_223 : decode Y_LW_act.2.1 223 = .ok (.irem, 1) := by decide +kernel
theorem d_LW_act_224 : decode Y_LW_act.2.1 224 = .ok (.iconst (2), 1) := by decide +kernel
theorem d_LW_act_225 : decode Y_LW_act.2.1 225 = .ok (.isub, 1) := by decide +kernel
theorem d_LW_act_226 : decode Y_LW_act.2.1 226 = .ok (.iload_n 2, 1) := by decide +kernel
theorem d_LW_act_227 : decode Y_LW_act.2.1 227 = .ok (.bipush (20), 2) := by decide +kernel
theorem d_LW_act_229 : decode Y_LW_act.2.1 229 = .ok (.idiv, 1) := by decide +kernel
theorem d_LW_act_230 : decode Y_LW_act.2.1 230 = .ok (.iconst (5), 1) := by decide +kernel
theorem d_LW_act_231 : decode Y_LW_act.2.1 231 = .ok (.irem, 1) := by decide +kernel
theorem d_LW_act_232 : decode Y_LW_act.2.1 232 = .ok (.iconst (2), 1) := by decide +kernel
theorem d_LW_act_233 : decode Y_LW_act.2.1 233 = .ok (.isub, 1) := by decide +kernel
theorem d_LW_act_234 : decode Y_LW_act.2.1 234 = .ok (.invokestatic 156, 3) := by decide +kernel
theorem d_LW_act_237 : decode Y_LW_act.2.1 237 = .ok (.ireturn, 1) := by decide +kernel
theorem d_LW_act_238 : decode Y_LW_act.2.1 238 = .ok (.aload_n 0, 1) := by decide +kernel
theorem d_LW_act_239 : decode Y_LW_act.2.1 239 = .ok (.bipush (10), 2) := by decide +kernel
theorem d_LW_act_241 : decode Y_LW_act.2.1 241 = .ok (.iconst (0), 1) := by decide +kernel
theorem d_LW_act_242 : decode Y_LW_act.2.1 242 = .ok (.iconst (1), 1) := by decide +kernel
theorem d_LW_act_243 : decode Y_LW_act.2.1 243 = .ok (.iload_n 2, 1) := by decide +kernel
theorem d_LW_act_244 : decode Y_LW_act.2.1 244 = .ok (.bipush (9), 2) := by decide +kernel
theorem d_LW_act_246 : decode Y_LW_act.2.1 246 = .ok (.irem, 1) := by decide +kernel
theorem d_LW_act_247 : decode Y_LW_act.2.1 247 = .ok (.iadd, 1) := by decide +kernel
theorem d_LW_act_248 : decode Y_LW_act.2.1 248 = .ok (.iconst (0), 1) := by decide +kernel
theorem d_LW_act_249 : decode Y_LW_act.2.1 249 = .ok (.invokestatic 156, 3) := by decide +kernel
theorem d_LW_act_252 : decode Y_LW_act.2.1 252 = .ok (.ireturn, 1) := by decide +kernel
theorem d_LW_act_253 : decode Y_LW_act.2.1 253 = .ok (.aload_n 0, 1) := by decide +kernel
theorem d_LW_act_254 : decode Y_LW_act.2.1 254 = .ok (.bipush (10), 2) := by decide +kernel
theorem d_LW_act_256 : decode Y_LW_act.2.1 256 = .ok (.iconst (1), 1) := by decide +kernel
theorem d_LW_act_257 : decode Y_LW_act.2.1 257 = .ok (.iconst (1), 1) := by decide +kernel
theorem d_LW_act_258 : decode Y_LW_act.2.1 258 = .ok (.iload_n 2, 1) := by decide +kernel
theorem d_LW_act_259 : decode Y_LW_act.2.1 259 = .ok (.bipush (99), 2) := by decide +kernel
theorem d_LW_act_261 : decode Y_LW_act.2.1 261 = .ok (.irem, 1) := by decide +kernel
theorem d_LW_act_262 : decode Y_LW_act.2.1 262 = .ok (.iadd, 1) := by decide +kernel
theorem d_LW_act_263 : decode Y_LW_act.2.1 263 = .ok (.iconst (0), 1) := by decide +kernel
theorem d_LW_act_264 : decode Y_LW_act.2.1 264 = .ok (.invokestatic 156, 3) := by decide +kernel
theorem d_LW_act_267 : decode Y_LW_act.2.1 267 = .ok (.ireturn, 1) := by decide +kernel
theorem d_LW_act_268 : decode Y_LW_act.2.1 268 = .ok (.aload_n 0, 1) := by decide +kernel
theorem d_LW_act_269 : decode Y_LW_act.2.1 269 = .ok (.iconst (2), 1) := by decide +kernel
theorem d_LW_act_270 : decode Y_LW_act.2.1 270 = .ok (.iconst (3), 1) := by decide +kernel
theorem d_LW_act_271 : decode Y_LW_act.2.1 271 = .ok (.iconst (0), 1) := by decide +kernel
theorem d_LW_act_272 : decode Y_LW_act.2.1 272 = .ok (.iconst (0), 1) := by decide +kernel
theorem d_LW_act_273 : decode Y_LW_act.2.1 273 = .ok (.invokestatic 156, 3) := by decide +kernel
theorem d_LW_act_276 : decode Y_LW_act.2.1 276 = .ok (.iconst (2), 1) := by decide +kernel
theorem d_LW_act_277 : decode Y_LW_act.2.1 277 = .ok (.if_icmp .ge (7), 3) := by decide +kernel
theorem d_LW_act_280 : decode Y_LW_act.2.1 280 = .ok (.iconst (-1), 1) := by decide +kernel
theorem d_LW_act_281 : decode Y_LW_act.2.1 281 = .ok (.goto (12), 3) := by decide +kernel
theorem d_LW_act_284 : decode Y_LW_act.2.1 284 = .ok (.aload_n 0, 1) := by decide +kernel
theorem d_LW_act_285 : decode Y_LW_act.2.1 285 = .ok (.bipush (11), 2) := by decide +kernel
theorem d_LW_act_287 : decode Y_LW_act.2.1 287 = .ok (.iconst (0), 1) := by decide +kernel
theorem d_LW_act_288 : decode Y_LW_act.2.1 288 = .ok (.iconst (0), 1) := by decide +kernel
theorem d_LW_act_289 : decode Y_LW_act.2.1 289 = .ok (.iconst (0), 1) := by decide +kernel
theorem d_LW_act_290 : decode Y_LW_act.2.1 290 = .ok (.invokestatic 156, 3) := by decide +kernel
theorem d_LW_act_293 : decode Y_LW_act.2.1 293 = .ok (.ireturn, 1) := by decide +kernel
theorem d_LW_act_294 : decode Y_LW_act.2.1 294 = .ok (.iload_n 2, 1) := by decide +kernel
theorem d_LW_act_295 : decode Y_LW_act.2.1 295 = .ok (.iconst (2), 1) := by decide +kernel
theorem d_LW_act_296 : decode Y_LW_act.2.1 296 = .ok (.irem, 1) := by decide +kernel
theorem d_LW_act_297 : decode Y_LW_act.2.1 297 = .ok (.ifCond .ne (19), 3) := by decide +kernel
theorem d_LW_act_300 : decode Y_LW_act.2.1 300 = .ok (.aload_n 0, 1) := by decide +kernel
theorem d_LW_act_301 : decode Y_LW_act.2.1 301 = .ok (.bipush (15), 2) := by decide +kernel
theorem d_LW_act_303 : decode Y_LW_act.2.1 303 = .ok (.iload_n 2, 1) := by decide +kernel
theorem d_LW_act_304 : decode Y_LW_act.2.1 304 = .ok (.iconst (2), 1) := by decide +kernel
theorem d_LW_act_305 : decode Y_LW_act.2.1 305 = .ok (.idiv, 1) := by decide +kernel
theorem d_LW_act_306 : decode Y_LW_act.2.1 306 = .ok (.iconst (2), 1) := by decide +kernel
theorem d_LW_act_307 : decode Y_LW_act.2.1 307 = .ok (.irem, 1) := by decide +kernel
theorem d_LW_act_308 : decode Y_LW_act.2.1 308 = .ok (.iconst (0), 1) := by decide +kernel
theorem d_LW_act_309 : decode Y_LW_act.2.1 309 = .ok (.iconst (0), 1) := by decide +kernel
theorem d_LW_act_310 : decode Y_LW_act.2.1 310 = .ok (.invokestatic 156, 3) := by decide +kernel
theorem d_LW_act_313 : decode Y_LW_act.2.1 313 = .ok (.goto (16), 3) := by decide +kernel
theorem d_LW_act_316 : decode Y_LW_act.2.1 316 = .ok (.aload_n 0, 1) := by decide +kernel
theorem d_LW_act_317 : decode Y_LW_act.2.1 317 = .ok (.bipush (16), 2) := by decide +kernel
theorem d_LW_act_319 : decode Y_LW_act.2.1 319 = .ok (.iload_n 2, 1) := by decide +kernel
theorem d_LW_act_320 : decode Y_LW_act.2.1 320 = .ok (.iconst (2), 1) := by decide +kernel
theorem d_LW_act_321 : decode Y_LW_act.2.1 321 = .ok (.idiv, 1) := by decide +kernel
theorem d_LW_act_322 : decode Y_LW_act.2.1 322 = .ok (.iconst (2), 1) := by decide +kernel
theorem d_LW_act_323 : decode Y_LW_act.2.1 323 = .ok (.irem, 1) := by decide +kernel
theorem d_LW_act_324 : decode Y_LW_act.2.1 324 = .ok (.iconst (0), 1) := by decide +kernel
theorem d_LW_act_325 : decode Y_LW_act.2.1 325 = .ok (.iconst (0), 1) := by decide +kernel
theorem d_LW_act_326 : decode Y_LW_act.2.1 326 = .ok (.invokestatic 156, 3) := by decide +kernel
theorem d_LW_act_329 : decode Y_LW_act.2.1 329 = .ok (.ireturn, 1) := by decide +kernel
theorem d_LW_act_330 : decode Y_LW_act.2.1 330 = .ok (.aload_n 0, 1) := by decide +kernel
theorem d_LW_act_331 : decode Y_LW_act.2.1 331 = .ok (.bipush (9), 2) := by decide +kernel
theorem d_LW_act_333 : decode Y_LW_act.2.1 333 = .ok (.iconst (1), 1) := by decide +kernel
theorem d_LW_act_334 : decode Y_LW_act.2.1 334 = .ok (.iload_n 2, 1) := by decide +kernel
theorem d_LW_act_335 : decode Y_LW_act.2.1 335 = .ok (.bipush (15), 2) := by decide +kernel
theorem d_LW_act_337 : decode Y_LW_act.2.1 337 = .ok (.irem, 1) := by decide +kernel
theorem d_LW_act_338 : decode Y_LW_act.2.1 338 = .ok (.iadd, 1) := by decide +kernel
theorem d_LW_act_339 : decode Y_LW_act.2.1 339 = .ok (.iconst (0), 1) := by decide +kernel
theorem d_LW_act_340 : decode Y_LW_act.2.1 340 = .ok (.iconst (0), 1) := by decide +kernel
theorem d_LW_act_341 : decode Y_LW_act.2.1 341 = .ok (.invokestatic 156, 3) := by decide +kernel
theorem d_LW_act_344 : decode Y_LW_act.2.1 344 = .ok (.ireturn, 1) := by decide +kernel
def f_LW_act (w : zW) (D : zD) (r0 : Nat) (x1 : Int32) : Option (Int32 × zD) := zjp (fun (x2 : Int32) (D1 : zD) => zjp (fun (s0 : Nat) (s1 : Int32) (s2 : Int32) (D3 : zD) => zci (f_LW_turned w D3 s0 s1 s2) (fun v5 D6 => some (v5, D6))) (fun j202 => zci (f_LW_call w D1 r0 (2 : Int32) (0 : Int32) (0 : Int32) (0 : Int32)) (fun v8 D9 => zchk (¬ v8 = 0) ((if (zirem (x2 / (4 : Int32)) (3 : Int32)) ≤ 0 then j202 r0 (zirem x2 v8) (0 : Int32) D9 else j202 r0 (zirem x2 v8) (1 : Int32) D9))))) (fun j178 => zlet (x1 / (16 : Int32)) (fun v11 => zlet (zirem x1 (16 : Int32)) (fun v12 => (if v12 = (0 : Int32) then zci (f_LW_sirens w D r0 ((zirem v11 (61 : Int32)) - (30 : Int32)) ((zirem (v11 / (61 : Int32)) (61 : Int32)) - (30 : Int32)) ((1 : Int32) + (zirem (v11 / (3721 : Int32)) (5 : Int32))) ((zirem (v11 / (18605 : Int32)) (7 : Int32)) - (3 : Int32)) ((1 : Int32) + (zirem (v11 / (130235 : Int32)) (20 : Int32)))) (fun v13 D14 => some (v13, D14)) else (if v12 = (1 : Int32) then zci (f_LW_hearers w D r0 ((zirem v11 (81 : Int32)) - (40 : Int32)) ((zirem (v11 / (81 : Int32)) (81 : Int32)) - (40 : Int32)) ((zirem (v11 / (6561 : Int32)) (5 : Int32)) - (2 : Int32)) ((zirem (v11 / (32805 : Int32)) (5 : Int32)) - (2 : Int32))) (fun v16 D17 => some (v16, D17)) else (if v12 = (2 : Int32) then zjp (fun (x2 : Int32) (s0 : Nat) (s1 : Int32) (D19 : zD) => zci (f_LW_walls w D19 s0 s1 ((zirem (x2 / (2 : Int32)) (81 : Int32)) - (40 : Int32))) (fun v21 D22 => some (v21, D22))) (fun j165 => (if (zirem v11 (2 : Int32)) = 0 then j165 v11 r0 (1 : Int32) D else j165 v11 r0 (0 : Int32) D)) else (if v12 = (3 : Int32) then j178 v11 D else (if v12 = (4 : Int32) then j178 v11 D else (if v12 = (5 : Int32) then zci (f_LW_call w D r0 (2 : Int32) (1 : Int32) (0 : Int32) (0 : Int32)) (fun v24 D25 => zchk (¬ v24 = 0) (zci (f_LW_call w D25 r0 (8 : Int32) (zirem v11 v24) ((zirem (v11 / (4 : Int32)) (5 : Int32)) - (2 : Int32)) ((zirem (v11 / (20 : Int32)) (5 : Int32)) - (2 : Int32))) (fun v27 D28 => some (v27, D28)))) else (if v12 = (6 : Int32) then zci (f_LW_call w D r0 (10 : Int32) (0 : Int32) ((1 : Int32) + (zirem v11 (9 : Int32))) (0 : Int32)) (fun v30 D31 => some (v30, D31)) else (if v12 = (7 : Int32) then zci (f_LW_call w D r0 (10 : Int32) (1 : Int32) ((1 : Int32) + (zirem v11 (99 : Int32))) (0 : Int32)) (fun v33 D34 => some (v33, D34)) else (if v12 = (8 : Int32) then zjp (fun (s0 : Int32) (D36 : zD) => some (s0, D36)) (fun j293 => zci (f_LW_call w D r0 (2 : Int32) (3 : Int32) (0 : Int32) (0 : Int32)) (fun v38 D39 => (if (2 : Int32) ≤ v38 then zci (f_LW_call w D39 r0 (11 : Int32) (0 : Int32) (0 : Int32) (0 : Int32)) (fun v41 D42 => j293 v41 D42) else j293 (-1 : Int32) D39))) else (if v12 = (9 : Int32) then zjp (fun (s0 : Int32) (D44 : zD) => some (s0, D44)) (fun j329 => (if (zirem v11 (2 : Int32)) = 0 then zci (f_LW_call w D r0 (15 : Int32) (zirem (v11 / (2 : Int32)) (2 : Int32)) (0 : Int32) (0 : Int32)) (fun v49 D50 => j329 v49 D50) else zci (f_LW_call w D r0 (16 : Int32) (zirem (v11 / (2 : Int32)) (2 : Int32)) (0 : Int32) (0 : Int32)) (fun v46 D47 => j329 v46 D47))) else zci (f_LW_call w D r0 (9 : Int32) ((1 : Int32) + (zirem v11 (15 : Int32))) (0 : Int32) (0 : Int32)) (fun v52 D53 => some (v52, D53)))))))))))))))
set_option maxHeartbeats 8000000 in
set_option maxRecDepth 100000 in
theorem c_LW_act (z : zT) (D : zD) (r0 : Nat) (x1 : Int32) : zM Y_LW_act 11 2 12 (zqY z.2) (f_LW_act z.2 D r0 x1) [.ref r0, .int x1] z D := by
  refine zM_of (plainFor_of_name (by decide +kernel)) rfl (Nat.le_of_ble_eq_true rfl) (fun _ _ _ _ h => nomatch h.1) (fun K => ?_)
  obtain ⟨n0, w⟩ := z
  show zGO K Y_LW_act 11 2 12 (zqY w) (f_LW_act w D r0 x1) 2 12 (n0, w) D 0 [(0, .ref r0), (1, .int x1)] []
  unfold f_LW_act
  refine z_jp (fun j178 : Int32 → zD → Option (Int32 × zD) => ∀ (x2 : Int32) (m2 : Nat) (D1 : zD), zGO K Y_LW_act 11 2 12 (zqY w) (j178 x2 D1) 2 12 (m2, w) D1 178 [(0, .ref r0), (2, .int x2)] []) (fun x2 m2 D1 => ?_) (fun j178 h178 => ?_)
  · refine z_jp (fun j202 : Nat → Int32 → Int32 → zD → Option (Int32 × zD) => ∀ (s0 : Nat) (s1 : Int32) (s2 : Int32) (m4 : Nat) (D3 : zD), zGO K Y_LW_act 11 2 12 (zqY w) (j202 s0 s1 s2 D3) 1 6 (m4, w) D3 202 [] [.int s2, .int s1, .ref s0]) (fun s0 s1 s2 m4 D3 => ?_) (fun j202 h202 => ?_)
    · refine z_callYH (pc := 202) (kc2 := 0) (ks2 := 0) [.ref s0, .int s1, .int s2] lkH_LW_171 (c_LW_turned (m4, w) D3 s0 s1 s2) (by decide) (by omega) (by omega) rfl rfl (Nat.le_of_ble_eq_true rfl) d_LW_act_202 (fun v5 D6 m7 => ?_)
      exact z_yret (pc := 205) rfl d_LW_act_205 rfl
    · refine z_aload_n (pc := 178) d_LW_act_178 rfl 0 rfl ?_
      refine z_iload_n (pc := 179) d_LW_act_179 rfl 1 rfl ?_
      refine z_aload_n (pc := 180) d_LW_act_180 rfl 0 rfl ?_
      refine z_iconst (pc := 181) d_LW_act_181 ki_2 ?_
      refine z_iconst (pc := 182) d_LW_act_182 ki_0 ?_
      refine z_iconst (pc := 183) d_LW_act_183 ki_0 ?_
      refine z_iconst (pc := 184) d_LW_act_184 ki_0 ?_
      refine z_callYA (pc := 185) (kc2 := 1) (ks2 := 6) [.ref r0, .int (2 : Int32), .int (0 : Int32), .int (0 : Int32), .int (0 : Int32)] lkS_LW_156 (c_LW_call (m2, w) D1 r0 (2 : Int32) (0 : Int32) (0 : Int32) (0 : Int32)) (by decide) (by omega) (by omega) rfl rfl (Nat.le_of_ble_eq_true rfl) d_LW_act_185 (fun v8 D9 m10 => ?_)
      refine z_irem (pc := 188) d_LW_act_188 ?_
      refine z_iload_n (pc := 189) d_LW_act_189 rfl 1 rfl ?_
      refine z_iconst (pc := 190) d_LW_act_190 ki_4 ?_
      refine z_idivK (pc := 191) d_LW_act_191 (by decide) ?_
      refine z_iconst (pc := 192) d_LW_act_192 ki_3 ?_
      refine z_iremK (pc := 193) d_LW_act_193 (by decide) ?_
      refine z_if_le (pc := 194) (tgt := 201) d_LW_act_194 (by decide) ?_ ?_
      · refine z_iconst (pc := 201) d_LW_act_201 ki_0 ?_
        refine z_kc (by omega) (by omega) (z_sub [] rfl (h202 r0 (zirem x2 v8) (0 : Int32) m10 D9))
      · refine z_iconst (pc := 197) d_LW_act_197 ki_1 ?_
        refine z_goto (pc := 198) (tgt := 202) d_LW_act_198 (by decide) ?_
        refine z_kc (by omega) (by omega) (z_sub [] rfl (h202 r0 (zirem x2 v8) (1 : Int32) m10 D9))
  · refine z_iload_n (pc := 0) d_LW_act_0 rfl 1 rfl ?_
    refine z_bipush (pc := 1) d_LW_act_1 kb_16 ?_
    refine z_idivK (pc := 3) d_LW_act_3 (by decide) ?_
    refine z_leti (fun v11 => ?_)
    refine z_istore_n (pc := 4) d_LW_act_4 rfl (by decide) (lv' := [(2, .int v11), (0, .ref r0), (1, .int x1)]) rfl ?_
    refine z_iload_n (pc := 5) d_LW_act_5 rfl 2 rfl ?_
    refine z_bipush (pc := 6) d_LW_act_6 kb_16 ?_
    refine z_iremK (pc := 8) d_LW_act_8 (by decide) ?_
    refine z_leti (fun v12 => ?_)
    refine z_case (fun e0 => ?_) (fun e0 => ?_)
    · refine z_tableIn (pc := 9) (tgt := 64) d_LW_act_9 e0 (by decide) (by decide) rfl (by decide) ?_
      refine z_aload_n (pc := 64) d_LW_act_64 rfl 1 rfl ?_
      refine z_iload_n (pc := 65) d_LW_act_65 rfl 0 rfl ?_
      refine z_bipush (pc := 66) d_LW_act_66 kb_61 ?_
      refine z_iremK (pc := 68) d_LW_act_68 (by decide) ?_
      refine z_bipush (pc := 69) d_LW_act_69 kb_30 ?_
      refine z_isub (pc := 71) d_LW_act_71 ?_
      refine z_iload_n (pc := 72) d_LW_act_72 rfl 0 rfl ?_
      refine z_bipush (pc := 73) d_LW_act_73 kb_61 ?_
      refine z_idivK (pc := 75) d_LW_act_75 (by decide) ?_
      refine z_bipush (pc := 76) d_LW_act_76 kb_61 ?_
      refine z_iremK (pc := 78) d_LW_act_78 (by decide) ?_
      refine z_bipush (pc := 79) d_LW_act_79 kb_30 ?_
      refine z_isub (pc := 81) d_LW_act_81 ?_
      refine z_iconst (pc := 82) d_LW_act_82 ki_1 ?_
      refine z_iload_n (pc := 83) d_LW_act_83 rfl 0 rfl ?_
      refine z_sipush (pc := 84) d_LW_act_84 ks_3721 ?_
      refine z_idivK (pc := 87) d_LW_act_87 (by decide) ?_
      refine z_iconst (pc := 88) d_LW_act_88 ki_5 ?_
      refine z_iremK (pc := 89) d_LW_act_89 (by decide) ?_
      refine z_iadd (pc := 90) d_LW_act_90 ?_
      refine z_iload_n (pc := 91) d_LW_act_91 rfl 0 rfl ?_
      refine z_sipush (pc := 92) d_LW_act_92 ks_18605 ?_
      refine z_idivK (pc := 95) d_LW_act_95 (by decide) ?_
      refine z_bipush (pc := 96) d_LW_act_96 kb_7 ?_
      refine z_iremK (pc := 98) d_LW_act_98 (by decide) ?_
      refine z_iconst (pc := 99) d_LW_act_99 ki_3 ?_
      refine z_isub (pc := 100) d_LW_act_100 ?_
      refine z_iconst (pc := 101) d_LW_act_101 ki_1 ?_
      refine z_iload_n (pc := 102) d_LW_act_102 rfl 0 rfl ?_
      refine z_ldc (pc := 103) w_k_LW_191 d_LW_act_103 ?_
      refine z_idivK (pc := 105) d_LW_act_105 (by decide) ?_
      refine z_bipush (pc := 106) d_LW_act_106 kb_20 ?_
      refine z_iremK (pc := 108) d_LW_act_108 (by decide) ?_
      refine z_iadd (pc := 109) d_LW_act_109 ?_
      refine z_callYH (pc := 110) (kc2 := 0) (ks2 := 0) [.ref r0, .int ((zirem v11 (61 : Int32)) - (30 : Int32)), .int ((zirem (v11 / (61 : Int32)) (61 : Int32)) - (30 : Int32)), .int ((1 : Int32) + (zirem (v11 / (3721 : Int32)) (5 : Int32))), .int ((zirem (v11 / (18605 : Int32)) (7 : Int32)) - (3 : Int32)), .int ((1 : Int32) + (zirem (v11 / (130235 : Int32)) (20 : Int32)))] lkH_LW_160 (c_LW_sirens (n0, w) D r0 ((zirem v11 (61 : Int32)) - (30 : Int32)) ((zirem (v11 / (61 : Int32)) (61 : Int32)) - (30 : Int32)) ((1 : Int32) + (zirem (v11 / (3721 : Int32)) (5 : Int32))) ((zirem (v11 / (18605 : Int32)) (7 : Int32)) - (3 : Int32)) ((1 : Int32) + (zirem (v11 / (130235 : Int32)) (20 : Int32)))) (by decide) (by omega) (by omega) rfl rfl (Nat.le_of_ble_eq_true rfl) d_LW_act_110 (fun v13 D14 m15 => ?_)
      exact z_yret (pc := 113) rfl d_LW_act_113 rfl
    · refine z_case (fun e1 => ?_) (fun e1 => ?_)
      · refine z_tableIn (pc := 9) (tgt := 114) d_LW_act_9 e1 (by decide) (by decide) rfl (by decide) ?_
        refine z_aload_n (pc := 114) d_LW_act_114 rfl 1 rfl ?_
        refine z_iload_n (pc := 115) d_LW_act_115 rfl 0 rfl ?_
        refine z_bipush (pc := 116) d_LW_act_116 kb_81 ?_
        refine z_iremK (pc := 118) d_LW_act_118 (by decide) ?_
        refine z_bipush (pc := 119) d_LW_act_119 kb_40 ?_
        refine z_isub (pc := 121) d_LW_act_121 ?_
        refine z_iload_n (pc := 122) d_LW_act_122 rfl 0 rfl ?_
        refine z_bipush (pc := 123) d_LW_act_123 kb_81 ?_
        refine z_idivK (pc := 125) d_LW_act_125 (by decide) ?_
        refine z_bipush (pc := 126) d_LW_act_126 kb_81 ?_
        refine z_iremK (pc := 128) d_LW_act_128 (by decide) ?_
        refine z_bipush (pc := 129) d_LW_act_129 kb_40 ?_
        refine z_isub (pc := 131) d_LW_act_131 ?_
        refine z_iload_n (pc := 132) d_LW_act_132 rfl 0 rfl ?_
        refine z_sipush (pc := 133) d_LW_act_133 ks_6561 ?_
        refine z_idivK (pc := 136) d_LW_act_136 (by decide) ?_
        refine z_iconst (pc := 137) d_LW_act_137 ki_5 ?_
        refine z_iremK (pc := 138) d_LW_act_138 (by decide) ?_
        refine z_iconst (pc := 139) d_LW_act_139 ki_2 ?_
        refine z_isub (pc := 140) d_LW_act_140 ?_
        refine z_iload_n (pc := 141) d_LW_act_141 rfl 0 rfl ?_
        refine z_ldc (pc := 142) w_k_LW_192 d_LW_act_142 ?_
        refine z_idivK (pc := 144) d_LW_act_144 (by decide) ?_
        refine z_iconst (pc := 145) d_LW_act_145 ki_5 ?_
        refine z_iremK (pc := 146) d_LW_act_146 (by decide) ?_
        refine z_iconst (pc := 147) d_LW_act_147 ki_2 ?_
        refine z_isub (pc := 148) d_LW_act_148 ?_
        refine z_callYH (pc := 149) (kc2 := 0) (ks2 := 0) [.ref r0, .int ((zirem v11 (81 : Int32)) - (40 : Int32)), .int ((zirem (v11 / (81 : Int32)) (81 : Int32)) - (40 : Int32)), .int ((zirem (v11 / (6561 : Int32)) (5 : Int32)) - (2 : Int32)), .int ((zirem (v11 / (32805 : Int32)) (5 : Int32)) - (2 : Int32))] lkH_LW_164 (c_LW_hearers (n0, w) D r0 ((zirem v11 (81 : Int32)) - (40 : Int32)) ((zirem (v11 / (81 : Int32)) (81 : Int32)) - (40 : Int32)) ((zirem (v11 / (6561 : Int32)) (5 : Int32)) - (2 : Int32)) ((zirem (v11 / (32805 : Int32)) (5 : Int32)) - (2 : Int32))) (by decide) (by omega) (by omega) rfl rfl (Nat.le_of_ble_eq_true rfl) d_LW_act_149 (fun v16 D17 m18 => ?_)
        exact z_yret (pc := 152) rfl d_LW_act_152 rfl
      · refine z_case (fun e2 => ?_) (fun e2 => ?_)
        · refine z_tableIn (pc := 9) (tgt := 153) d_LW_act_9 e2 (by decide) (by decide) rfl (by decide) ?_
          refine z_jp (fun j165 : Int32 → Nat → Int32 → zD → Option (Int32 × zD) => ∀ (x2 : Int32) (s0 : Nat) (s1 : Int32) (m20 : Nat) (D19 : zD), zGO K Y_LW_act 11 2 12 (zqY w) (j165 x2 s0 s1 D19) 1 6 (m20, w) D19 165 [(2, .int x2)] [.int s1, .ref s0]) (fun x2 s0 s1 m20 D19 => ?_) (fun j165 h165 => ?_)
          · refine z_iload_n (pc := 165) d_LW_act_165 rfl 0 rfl ?_
            refine z_iconst (pc := 166) d_LW_act_166 ki_2 ?_
            refine z_idivK (pc := 167) d_LW_act_167 (by decide) ?_
            refine z_bipush (pc := 168) d_LW_act_168 kb_81 ?_
            refine z_iremK (pc := 170) d_LW_act_170 (by decide) ?_
            refine z_bipush (pc := 171) d_LW_act_171 kb_40 ?_
            refine z_isub (pc := 173) d_LW_act_173 ?_
            refine z_callYH (pc := 174) (kc2 := 0) (ks2 := 0) [.ref s0, .int s1, .int ((zirem (x2 / (2 : Int32)) (81 : Int32)) - (40 : Int32))] lkH_LW_167 (c_LW_walls (m20, w) D19 s0 s1 ((zirem (x2 / (2 : Int32)) (81 : Int32)) - (40 : Int32))) (by decide) (by omega) (by omega) rfl rfl (Nat.le_of_ble_eq_true rfl) d_LW_act_174 (fun v21 D22 m23 => ?_)
            exact z_yret (pc := 177) rfl d_LW_act_177 rfl
          · refine z_aload_n (pc := 153) d_LW_act_153 rfl 1 rfl ?_
            refine z_iload_n (pc := 154) d_LW_act_154 rfl 0 rfl ?_
            refine z_iconst (pc := 155) d_LW_act_155 ki_2 ?_
            refine z_iremK (pc := 156) d_LW_act_156 (by decide) ?_
            refine z_if_ne (pc := 157) (tgt := 164) d_LW_act_157 (by decide) ?_ ?_
            · refine z_iconst (pc := 160) d_LW_act_160 ki_1 ?_
              refine z_goto (pc := 161) (tgt := 165) d_LW_act_161 (by decide) ?_
              refine z_kc (by omega) (by omega) (z_sub [0] rfl (h165 v11 r0 (1 : Int32) n0 D))
            · refine z_iconst (pc := 164) d_LW_act_164 ki_0 ?_
              refine z_kc (by omega) (by omega) (z_sub [0] rfl (h165 v11 r0 (0 : Int32) n0 D))
        · refine z_case (fun e3 => ?_) (fun e3 => ?_)
          · refine z_tableIn (pc := 9) (tgt := 178) d_LW_act_9 e3 (by decide) (by decide) rfl (by decide) ?_
            refine z_kc (by omega) (by omega) (z_sub [1, 0] rfl (h178 v11 n0 D))
          · refine z_case (fun e4 => ?_) (fun e4 => ?_)
            · refine z_tableIn (pc := 9) (tgt := 178) d_LW_act_9 e4 (by decide) (by decide) rfl (by decide) ?_
              refine z_kc (by omega) (by omega) (z_sub [1, 0] rfl (h178 v11 n0 D))
            · refine z_case (fun e5 => ?_) (fun e5 => ?_)
              · refine z_tableIn (pc := 9) (tgt := 206) d_LW_act_9 e5 (by decide) (by decide) rfl (by decide) ?_
                refine z_aload_n (pc := 206) d_LW_act_206 rfl 1 rfl ?_
                refine z_bipush (pc := 207) d_LW_act_207 kb_8 ?_
                refine z_iload_n (pc := 209) d_LW_act_209 rfl 0 rfl ?_
                refine z_aload_n (pc := 210) d_LW_act_210 rfl 1 rfl ?_
                refine z_iconst (pc := 211) d_LW_act_211 ki_2 ?_
                refine z_iconst (pc := 212) d_LW_act_212 ki_1 ?_
                refine z_iconst (pc := 213) d_LW_act_213 ki_0 ?_
                refine z_iconst (pc := 214) d_LW_act_214 ki_0 ?_
                refine z_callYA (pc := 215) (kc2 := 1) (ks2 := 6) [.ref r0, .int (2 : Int32), .int (1 : Int32), .int (0 : Int32), .int (0 : Int32)] lkS_LW_156 (c_LW_call (n0, w) D r0 (2 : Int32) (1 : Int32) (0 : Int32) (0 : Int32)) (by decide) (by omega) (by omega) rfl rfl (Nat.le_of_ble_eq_true rfl) d_LW_act_215 (fun v24 D25 m26 => ?_)
                refine z_irem (pc := 218) d_LW_act_218 ?_
                refine z_iload_n (pc := 219) d_LW_act_219 rfl 0 rfl ?_
                refine z_iconst (pc := 220) d_LW_act_220 ki_4 ?_
                refine z_idivK (pc := 221) d_LW_act_221 (by decide) ?_
                refine z_iconst (pc := 222) d_LW_act_222 ki_5 ?_
                refine z_iremK (pc := 223) d_LW_act_223 (by decide) ?_
                refine z_iconst (pc := 224) d_LW_act_224 ki_2 ?_
                refine z_isub (pc := 225) d_LW_act_225 ?_
                refine z_iload_n (pc := 226) d_LW_act_226 rfl 0 rfl ?_
                refine z_bipush (pc := 227) d_LW_act_227 kb_20 ?_
                refine z_idivK (pc := 229) d_LW_act_229 (by decide) ?_
                refine z_iconst (pc := 230) d_LW_act_230 ki_5 ?_
                refine z_iremK (pc := 231) d_LW_act_231 (by decide) ?_
                refine z_iconst (pc := 232) d_LW_act_232 ki_2 ?_
                refine z_isub (pc := 233) d_LW_act_233 ?_
                refine z_callYA (pc := 234) (kc2 := 0) (ks2 := 0) [.ref r0, .int (8 : Int32), .int (zirem v11 v24), .int ((zirem (v11 / (4 : Int32)) (5 : Int32)) - (2 : Int32)), .int ((zirem (v11 / (20 : Int32)) (5 : Int32)) - (2 : Int32))] lkS_LW_156 (c_LW_call (m26, w) D25 r0 (8 : Int32) (zirem v11 v24) ((zirem (v11 / (4 : Int32)) (5 : Int32)) - (2 : Int32)) ((zirem (v11 / (20 : Int32)) (5 : Int32)) - (2 : Int32))) (by decide) (by omega) (by omega) rfl rfl (Nat.le_of_ble_eq_true rfl) d_LW_act_234 (fun v27 D28 m29 => ?_)
                exact z_yret (pc := 237) rfl d_LW_act_237 rfl
              · refine z_case (fun e6 => ?_) (fun e6 => ?_)
                · refine z_tableIn (pc := 9) (tgt := 238) d_LW_act_9 e6 (by decide) (by decide) rfl (by decide) ?_
                  refine z_aload_n (pc := 238) d_LW_act_238 rfl 1 rfl ?_
                  refine z_bipush (pc := 239) d_LW_act_239 kb_10 ?_
                  refine z_iconst (pc := 241) d_LW_act_241 ki_0 ?_
                  refine z_iconst (pc := 242) d_LW_act_242 ki_1 ?_
                  refine z_iload_n (pc := 243) d_LW_act_243 rfl 0 rfl ?_
                  refine z_bipush (pc := 244) d_LW_act_244 kb_9 ?_
                  refine z_iremK (pc := 246) d_LW_act_246 (by decide) ?_
                  refine z_iadd (pc := 247) d_LW_act_247 ?_
                  refine z_iconst (pc := 248) d_LW_act_248 ki_0 ?_
                  refine z_callYA (pc := 249) (kc2 := 0) (ks2 := 0) [.ref r0, .int (10 : Int32), .int (0 : Int32), .int ((1 : Int32) + (zirem v11 (9 : Int32))), .int (0 : Int32)] lkS_LW_156 (c_LW_call (n0, w) D r0 (10 : Int32) (0 : Int32) ((1 : Int32) + (zirem v11 (9 : Int32))) (0 : Int32)) (by decide) (by omega) (by omega) rfl rfl (Nat.le_of_ble_eq_true rfl) d_LW_act_249 (fun v30 D31 m32 => ?_)
                  exact z_yret (pc := 252) rfl d_LW_act_252 rfl
                · refine z_case (fun e7 => ?_) (fun e7 => ?_)
                  · refine z_tableIn (pc := 9) (tgt := 253) d_LW_act_9 e7 (by decide) (by decide) rfl (by decide) ?_
                    refine z_aload_n (pc := 253) d_LW_act_253 rfl 1 rfl ?_
                    refine z_bipush (pc := 254) d_LW_act_254 kb_10 ?_
                    refine z_iconst (pc := 256) d_LW_act_256 ki_1 ?_
                    refine z_iconst (pc := 257) d_LW_act_257 ki_1 ?_
                    refine z_iload_n (pc := 258) d_LW_act_258 rfl 0 rfl ?_
                    refine z_bipush (pc := 259) d_LW_act_259 kb_99 ?_
                    refine z_iremK (pc := 261) d_LW_act_261 (by decide) ?_
                    refine z_iadd (pc := 262) d_LW_act_262 ?_
                    refine z_iconst (pc := 263) d_LW_act_263 ki_0 ?_
                    refine z_callYA (pc := 264) (kc2 := 0) (ks2 := 0) [.ref r0, .int (10 : Int32), .int (1 : Int32), .int ((1 : Int32) + (zirem v11 (99 : Int32))), .int (0 : Int32)] lkS_LW_156 (c_LW_call (n0, w) D r0 (10 : Int32) (1 : Int32) ((1 : Int32) + (zirem v11 (99 : Int32))) (0 : Int32)) (by decide) (by omega) (by omega) rfl rfl (Nat.le_of_ble_eq_true rfl) d_LW_act_264 (fun v33 D34 m35 => ?_)
                    exact z_yret (pc := 267) rfl d_LW_act_267 rfl
                  · refine z_case (fun e8 => ?_) (fun e8 => ?_)
                    · refine z_tableIn (pc := 9) (tgt := 268) d_LW_act_9 e8 (by decide) (by decide) rfl (by decide) ?_
                      refine z_jp (fun j293 : Int32 → zD → Option (Int32 × zD) => ∀ (s0 : Int32) (m37 : Nat) (D36 : zD), zGO K Y_LW_act 11 2 12 (zqY w) (j293 s0 D36) 0 0 (m37, w) D36 293 [] [.int s0]) (fun s0 m37 D36 => ?_) (fun j293 h293 => ?_)
                      · exact z_yret (pc := 293) rfl d_LW_act_293 rfl
                      · refine z_aload_n (pc := 268) d_LW_act_268 rfl 1 rfl ?_
                        refine z_iconst (pc := 269) d_LW_act_269 ki_2 ?_
                        refine z_iconst (pc := 270) d_LW_act_270 ki_3 ?_
                        refine z_iconst (pc := 271) d_LW_act_271 ki_0 ?_
                        refine z_iconst (pc := 272) d_LW_act_272 ki_0 ?_
                        refine z_callYA (pc := 273) (kc2 := 1) (ks2 := 6) [.ref r0, .int (2 : Int32), .int (3 : Int32), .int (0 : Int32), .int (0 : Int32)] lkS_LW_156 (c_LW_call (n0, w) D r0 (2 : Int32) (3 : Int32) (0 : Int32) (0 : Int32)) (by decide) (by omega) (by omega) rfl rfl (Nat.le_of_ble_eq_true rfl) d_LW_act_273 (fun v38 D39 m40 => ?_)
                        refine z_iconst (pc := 276) d_LW_act_276 ki_2 ?_
                        refine z_icmp_ge (pc := 277) (tgt := 284) d_LW_act_277 (by decide) ?_ ?_
                        · refine z_aload_n (pc := 284) d_LW_act_284 rfl 1 rfl ?_
                          refine z_bipush (pc := 285) d_LW_act_285 kb_11 ?_
                          refine z_iconst (pc := 287) d_LW_act_287 ki_0 ?_
                          refine z_iconst (pc := 288) d_LW_act_288 ki_0 ?_
                          refine z_iconst (pc := 289) d_LW_act_289 ki_0 ?_
                          refine z_callYA (pc := 290) (kc2 := 0) (ks2 := 0) [.ref r0, .int (11 : Int32), .int (0 : Int32), .int (0 : Int32), .int (0 : Int32)] lkS_LW_156 (c_LW_call (m40, w) D39 r0 (11 : Int32) (0 : Int32) (0 : Int32) (0 : Int32)) (by decide) (by omega) (by omega) rfl rfl (Nat.le_of_ble_eq_true rfl) d_LW_act_290 (fun v41 D42 m43 => ?_)
                          refine z_kc (by omega) (by omega) (z_sub [] rfl (h293 v41 m43 D42))
                        · refine z_iconst (pc := 280) d_LW_act_280 ki_m1 ?_
                          refine z_goto (pc := 281) (tgt := 293) d_LW_act_281 (by decide) ?_
                          refine z_kc (by omega) (by omega) (z_sub [] rfl (h293 (-1 : Int32) m40 D39))
                    · refine z_case (fun e9 => ?_) (fun e9 => ?_)
                      · refine z_tableIn (pc := 9) (tgt := 294) d_LW_act_9 e9 (by decide) (by decide) rfl (by decide) ?_
                        refine z_jp (fun j329 : Int32 → zD → Option (Int32 × zD) => ∀ (s0 : Int32) (m45 : Nat) (D44 : zD), zGO K Y_LW_act 11 2 12 (zqY w) (j329 s0 D44) 0 0 (m45, w) D44 329 [] [.int s0]) (fun s0 m45 D44 => ?_) (fun j329 h329 => ?_)
                        · exact z_yret (pc := 329) rfl d_LW_act_329 rfl
                        · refine z_iload_n (pc := 294) d_LW_act_294 rfl 0 rfl ?_
                          refine z_iconst (pc := 295) d_LW_act_295 ki_2 ?_
                          refine z_iremK (pc := 296) d_LW_act_296 (by decide) ?_
                          refine z_if_ne (pc := 297) (tgt := 316) d_LW_act_297 (by decide) ?_ ?_
                          · refine z_aload_n (pc := 300) d_LW_act_300 rfl 1 rfl ?_
                            refine z_bipush (pc := 301) d_LW_act_301 kb_15 ?_
                            refine z_iload_n (pc := 303) d_LW_act_303 rfl 0 rfl ?_
                            refine z_iconst (pc := 304) d_LW_act_304 ki_2 ?_
                            refine z_idivK (pc := 305) d_LW_act_305 (by decide) ?_
                            refine z_iconst (pc := 306) d_LW_act_306 ki_2 ?_
                            refine z_iremK (pc := 307) d_LW_act_307 (by decide) ?_
                            refine z_iconst (pc := 308) d_LW_act_308 ki_0 ?_
                            refine z_iconst (pc := 309) d_LW_act_309 ki_0 ?_
                            refine z_callYA (pc := 310) (kc2 := 0) (ks2 := 0) [.ref r0, .int (15 : Int32), .int (zirem (v11 / (2 : Int32)) (2 : Int32)), .int (0 : Int32), .int (0 : Int32)] lkS_LW_156 (c_LW_call (n0, w) D r0 (15 : Int32) (zirem (v11 / (2 : Int32)) (2 : Int32)) (0 : Int32) (0 : Int32)) (by decide) (by omega) (by omega) rfl rfl (Nat.le_of_ble_eq_true rfl) d_LW_act_310 (fun v49 D50 m51 => ?_)
                            refine z_goto (pc := 313) (tgt := 329) d_LW_act_313 (by decide) ?_
                            refine z_kc (by omega) (by omega) (z_sub [] rfl (h329 v49 m51 D50))
                          · refine z_aload_n (pc := 316) d_LW_act_316 rfl 1 rfl ?_
                            refine z_bipush (pc := 317) d_LW_act_317 kb_16 ?_
                            refine z_iload_n (pc := 319) d_LW_act_319 rfl 0 rfl ?_
                            refine z_iconst (pc := 320) d_LW_act_320 ki_2 ?_
                            refine z_idivK (pc := 321) d_LW_act_321 (by decide) ?_
                            refine z_iconst (pc := 322) d_LW_act_322 ki_2 ?_
                            refine z_iremK (pc := 323) d_LW_act_323 (by decide) ?_
                            refine z_iconst (pc := 324) d_LW_act_324 ki_0 ?_
                            refine z_iconst (pc := 325) d_LW_act_325 ki_0 ?_
                            refine z_callYA (pc := 326) (kc2 := 0) (ks2 := 0) [.ref r0, .int (16 : Int32), .int (zirem (v11 / (2 : Int32)) (2 : Int32)), .int (0 : Int32), .int (0 : Int32)] lkS_LW_156 (c_LW_call (n0, w) D r0 (16 : Int32) (zirem (v11 / (2 : Int32)) (2 : Int32)) (0 : Int32) (0 : Int32)) (by decide) (by omega) (by omega) rfl rfl (Nat.le_of_ble_eq_true rfl) d_LW_act_326 (fun v46 D47 m48 => ?_)
                            refine z_kc (by omega) (by omega) (z_sub [] rfl (h329 v46 m48 D47))
                      · refine z_tableOut (pc := 9) (tgt := 330) d_LW_act_9 (by have g0 := z_neI e0 (n := 0) rfl; have g1 := z_neI e1 (n := 1) rfl; have g2 := z_neI e2 (n := 2) rfl; have g3 := z_neI e3 (n := 3) rfl; have g4 := z_neI e4 (n := 4) rfl; have g5 := z_neI e5 (n := 5) rfl; have g6 := z_neI e6 (n := 6) rfl; have g7 := z_neI e7 (n := 7) rfl; have g8 := z_neI e8 (n := 8) rfl; have g9 := z_neI e9 (n := 9) rfl; omega) (by decide) ?_
                        refine z_aload_n (pc := 330) d_LW_act_330 rfl 1 rfl ?_
                        refine z_bipush (pc := 331) d_LW_act_331 kb_9 ?_
                        refine z_iconst (pc := 333) d_LW_act_333 ki_1 ?_
                        refine z_iload_n (pc := 334) d_LW_act_334 rfl 0 rfl ?_
                        refine z_bipush (pc := 335) d_LW_act_335 kb_15 ?_
                        refine z_iremK (pc := 337) d_LW_act_337 (by decide) ?_
                        refine z_iadd (pc := 338) d_LW_act_338 ?_
                        refine z_iconst (pc := 339) d_LW_act_339 ki_0 ?_
                        refine z_iconst (pc := 340) d_LW_act_340 ki_0 ?_
                        refine z_callYA (pc := 341) (kc2 := 0) (ks2 := 0) [.ref r0, .int (9 : Int32), .int ((1 : Int32) + (zirem v11 (15 : Int32))), .int (0 : Int32), .int (0 : Int32)] lkS_LW_156 (c_LW_call (n0, w) D r0 (9 : Int32) ((1 : Int32) + (zirem v11 (15 : Int32))) (0 : Int32) (0 : Int32)) (by decide) (by omega) (by omega) rfl rfl (Nat.le_of_ble_eq_true rfl) d_LW_act_341 (fun v52 D53 m54 => ?_)
                        exact z_yret (pc := 344) rfl d_LW_act_344 rfl
