def Y_LW_alike : zY := (⟨"SirenFairLaw", "alike", "(LSirenFair;LSirenFair;I)Z"⟩, method_32_code, 5, some .boolean, [])
theorem d_LW_alike_0 : decode Y_LW_alike.2.1 0 = .ok (.aload_n 0, 1) := by decide +kernel
theorem d_LW_alike_1 : decode Y_LW_alike.2.1 1 = .ok (.iload_n 2, 1) := by decide +kernel
theorem d_LW_alike_2 : decode Y_LW_alike.2.1 2 = .ok (.i2l, 1) := by decide +kernel
theorem d_LW_alike_3 : decode Y_LW_alike.2.1 3 = .ok (.iconst (1), 1) := by decide +kernel
theorem d_LW_alike_4 : decode Y_LW_alike.2.1 4 = .ok (.iload_n 2, 1) := by decide +kernel
theorem d_LW_alike_5 : decode Y_LW_alike.2.1 5 = .ok (.bipush (30), 2) := by decide +kernel
theorem d_LW_alike_7 : decode Y_LW_alike.2.1 7 = .ok (.irem, 1) := by decide +kernel
theorem d_LW_alike_8 : decode Y_LW_alike.2.1 8 = .ok (.iadd, 1) := by decide +kernel
theorem d_LW_alike_9 : decode Y_LW_alike.2.1 9 = .ok (.invokestatic 181, 3) := by decide +kernel
theorem d_LW_alike_12 : decode Y_LW_alike.2.1 12 = .ok (.aload_n 1, 1) := by decide +kernel
theorem d_LW_alike_13 : decode Y_LW_alike.2.1 13 = .ok (.iload_n 2, 1) := by decide +kernel
theorem d_LW_alike_14 : decode Y_LW_alike.2.1 14 = .ok (.i2l, 1) := by decide +kernel
theorem d_LW_alike_15 : decode Y_LW_alike.2.1 15 = .ok (.iconst (1), 1) := by decide +kernel
theorem d_LW_alike_16 : decode Y_LW_alike.2.1 16 = .ok (.iload_n 2, 1) := by decide +kernel
theorem d_LW_alike_17 : decode Y_LW_alike.2.1 17 = .ok (.bipush (30), 2) := by decide +kernel
theorem d_LW_alike_19 : decode Y_LW_alike.2.1 19 = .ok (.irem, 1) := by decide +kernel
theorem d_LW_alike_20 : decode Y_LW_alike.2.1 20 = .ok (.iadd, 1) := by decide +kernel
theorem d_LW_alike_21 : decode Y_LW_alike.2.1 21 = .ok (.invokestatic 181, 3) := by decide +kernel
theorem d_LW_alike_24 : decode Y_LW_alike.2.1 24 = .ok (.if_icmp .ne (18), 3) := by decide +kernel
theorem d_LW_alike_27 : decode Y_LW_alike.2.1 27 = .ok (.aload_n 0, 1) := by decide +kernel
theorem d_LW_alike_28 : decode Y_LW_alike.2.1 28 = .ok (.invokevirtual 188, 3) := by decide +kernel
theorem d_LW_alike_31 : decode Y_LW_alike.2.1 31 = .ok (.aload_n 1, 1) := by decide +kernel
theorem d_LW_alike_32 : decode Y_LW_alike.2.1 32 = .ok (.invokevirtual 188, 3) := by decide +kernel
theorem d_LW_alike_35 : decode Y_LW_alike.2.1 35 = .ok (.if_icmp .ne (7), 3) := by decide +kernel
theorem d_LW_alike_38 : decode Y_LW_alike.2.1 38 = .ok (.iconst (1), 1) := by decide +kernel
theorem d_LW_alike_39 : decode Y_LW_alike.2.1 39 = .ok (.goto (4), 3) := by decide +kernel
theorem d_LW_alike_42 : decode Y_LW_alike.2.1 42 = .ok (.iconst (0), 1) := by decide +kernel
theorem d_LW_alike_43 : decode Y_LW_alike.2.1 43 = .ok (.istore_n 3, 1) := by decide +kernel
theorem d_LW_alike_44 : decode Y_LW_alike.2.1 44 = .ok (.iconst (0), 1) := by decide +kernel
theorem d_LW_alike_45 : decode Y_LW_alike.2.1 45 = .ok (.istore 4, 2) := by decide +kernel
theorem d_LW_alike_47 : decode Y_LW_alike.2.1 47 = .ok (.iload 4, 2) := by decide +kernel
theorem d_LW_alike_49 : decode Y_LW_alike.2.1 49 = .ok (.bipush (60), 2) := by decide +kernel
theorem d_LW_alike_51 : decode Y_LW_alike.2.1 51 = .ok (.if_icmp .ge (165), 3) := by decide +kernel
theorem d_LW_alike_54 : decode Y_LW_alike.2.1 54 = .ok (.iload_n 3, 1) := by decide +kernel
theorem d_LW_alike_55 : decode Y_LW_alike.2.1 55 = .ok (.ifCond .eq (161), 3) := by decide +kernel
theorem d_LW_alike_58 : decode Y_LW_alike.2.1 58 = .ok (.aload_n 0, 1) := by decide +kernel
theorem d_LW_alike_59 : decode Y_LW_alike.2.1 59 = .ok (.bipush (6), 2) := by decide +kernel
theorem d_LW_alike_61 : decode Y_LW_alike.2.1 61 = .ok (.iload 4, 2) := by decide +kernel
theorem d_LW_alike_63 : decode Y_LW_alike.2.1 63 = .ok (.iload_n 2, 1) := by decide +kernel
theorem d_LW_alike_64 : decode Y_LW_alike.2.1 64 = .ok (.bipush (6), 2) := by decide +kernel
theorem d_LW_alike_66 : decode Y_LW_alike.2.1 66 = .ok (.irem, 1) := by decide +kernel
theorem d_LW_alike_67 : decode Y_LW_alike.2.1 67 = .ok (.iconst (0), 1) := by decide +kernel
theorem d_LW_alike_68 : decode Y_LW_alike.2.1 68 = .ok (.invokestatic 156, 3) := by decide +kernel
theorem d_LW_alike_71 : decode Y_LW_alike.2.1 71 = .ok (.aload_n 1, 1) := by decide +kernel
theorem d_LW_alike_72 : decode Y_LW_alike.2.1 72 = .ok (.bipush (6), 2) := by decide +kernel
theorem d_LW_alike_74 : decode Y_LW_alike.2.1 74 = .ok (.iload 4, 2) := by decide +kernel
theorem d_LW_alike_76 : decode Y_LW_alike.2.1 76 = .ok (.iload_n 2, 1) := by decide +kernel
theorem d_LW_alike_77 : decode Y_LW_alike.2.1 77 = .ok (.bipush (6), 2) := by decide +kernel
theorem d_LW_alike_79 : decode Y_LW_alike.2.1 79 = .ok (.irem, 1) := by decide +kernel
theorem d_LW_alike_80 : decode Y_LW_alike.2.1 80 = .ok (.iconst (0), 1) := by decide +kernel
theorem d_LW_alike_81 : decode Y_LW_alike.2.1 81 = .ok (.invokestatic 156, 3) := by decide +kernel
theorem d_LW_alike_84 : decode Y_LW_alike.2.1 84 = .ok (.if_icmp .ne (124), 3) := by decide +kernel
theorem d_LW_alike_87 : decode Y_LW_alike.2.1 87 = .ok (.iload 4, 2) := by decide +kernel
theorem d_LW_alike_89 : decode Y_LW_alike.2.1 89 = .ok (.bipush (9), 2) := by decide +kernel
theorem d_LW_alike_91 : decode Y_LW_alike.2.1 91 = .ok (.if_icmp .gt (113), 3) := by decide +kernel
theorem d_LW_alike_94 : decode Y_LW_alike.2.1 94 = .ok (.aload_n 0, 1) := by decide +kernel
theorem d_LW_alike_95 : decode Y_LW_alike.2.1 95 = .ok (.iconst (2), 1) := by decide +kernel
theorem d_LW_alike_96 : decode Y_LW_alike.2.1 96 = .ok (.iload 4, 2) := by decide +kernel
theorem d_LW_alike_98 : decode Y_LW_alike.2.1 98 = .ok (.iconst (0), 1) := by decide +kernel
theorem d_LW_alike_99 : decode Y_LW_alike.2.1 99 = .ok (.iconst (0), 1) := by decide +kernel
theorem d_LW_alike_100 : decode Y_LW_alike.2.1 100 = .ok (.invokestatic 156, 3) := by decide +kernel
theorem d_LW_alike_103 : decode Y_LW_alike.2.1 103 = .ok (.aload_n 1, 1) := by decide +kernel
theorem d_LW_alike_104 : decode Y_LW_alike.2.1 104 = .ok (.iconst (2), 1) := by decide +kernel
theorem d_LW_alike_105 : decode Y_LW_alike.2.1 105 = .ok (.iload 4, 2) := by decide +kernel
theorem d_LW_alike_107 : decode Y_LW_alike.2.1 107 = .ok (.iconst (0), 1) := by decide +kernel
theorem d_LW_alike_108 : decode Y_LW_alike.2.1 108 = .ok (.iconst (0), 1) := by decide +kernel
theorem d_LW_alike_109 : decode Y_LW_alike.2.1 109 = .ok (.invokestatic 156, 3) := by decide +kernel
theorem d_LW_alike_112 : decode Y_LW_alike.2.1 112 = .ok (.if_icmp .ne (96), 3) := by decide +kernel
theorem d_LW_alike_115 : decode Y_LW_alike.2.1 115 = .ok (.aload_n 0, 1) := by decide +kernel
theorem d_LW_alike_116 : decode Y_LW_alike.2.1 116 = .ok (.iconst (3), 1) := by decide +kernel
theorem d_LW_alike_117 : decode Y_LW_alike.2.1 117 = .ok (.iload_n 2, 1) := by decide +kernel
theorem d_LW_alike_118 : decode Y_LW_alike.2.1 118 = .ok (.iconst (4), 1) := by decide +kernel
theorem d_LW_alike_119 : decode Y_LW_alike.2.1 119 = .ok (.irem, 1) := by decide +kernel
theorem d_LW_alike_120 : decode Y_LW_alike.2.1 120 = .ok (.iload 4, 2) := by decide +kernel
theorem d_LW_alike_122 : decode Y_LW_alike.2.1 122 = .ok (.iconst (0), 1) := by decide +kernel
theorem d_LW_alike_123 : decode Y_LW_alike.2.1 123 = .ok (.invokestatic 156, 3) := by decide +kernel
theorem d_LW_alike_126 : decode Y_LW_alike.2.1 126 = .ok (.aload_n 1, 1) := by decide +kernel
theorem d_LW_alike_127 : decode Y_LW_alike.2.1 127 = .ok (.iconst (3), 1) := by decide +kernel
theorem d_LW_alike_128 : decode Y_LW_alike.2.1 128 = .ok (.iload_n 2, 1) := by decide +kernel
theorem d_LW_alike_129 : decode Y_LW_alike.2.1 129 = .ok (.iconst (4), 1) := by decide +kernel
theorem d_LW_alike_130 : decode Y_LW_alike.2.1 130 = .ok (.irem, 1) := by decide +kernel
theorem d_LW_alike_131 : decode Y_LW_alike.2.1 131 = .ok (.iload 4, 2) := by decide +kernel
theorem d_LW_alike_133 : decode Y_LW_alike.2.1 133 = .ok (.iconst (0), 1) := by decide +kernel
theorem d_LW_alike_134 : decode Y_LW_alike.2.1 134 = .ok (.invokestatic 156, 3) := by decide +kernel
theorem d_LW_alike_137 : decode Y_LW_alike.2.1 137 = .ok (.if_icmp .ne (71), 3) := by decide +kernel
theorem d_LW_alike_140 : decode Y_LW_alike.2.1 140 = .ok (.aload_n 0, 1) := by decide +kernel
theorem d_LW_alike_141 : decode Y_LW_alike.2.1 141 = .ok (.iconst (4), 1) := by decide +kernel
theorem d_LW_alike_142 : decode Y_LW_alike.2.1 142 = .ok (.iload_n 2, 1) := by decide +kernel
theorem d_LW_alike_143 : decode Y_LW_alike.2.1 143 = .ok (.iconst (4), 1) := by decide +kernel
theorem d_LW_alike_144 : decode Y_LW_alike.2.1 144 = .ok (.idiv, 1) := by decide +kernel
theorem d_LW_alike_145 : decode Y_LW_alike.2.1 145 = .ok (.iconst (4), 1) := by decide +kernel
theorem d_LW_alike_146 : decode Y_LW_alike.2.1 146 = .ok (.irem, 1) := by decide +kernel
theorem d_LW_alike_147 : decode Y_LW_alike.2.1 147 = .ok (.iload 4, 2) := by decide +kernel
theorem d_LW_alike_149 : decode Y_LW_alike.2.1 149 = .ok (.iconst (0), 1) := by decide +kernel
theorem d_LW_alike_150 : decode Y_LW_alike.2.1 150 = .ok (.invokestatic 156, 3) := by decide +kernel
theorem d_LW_alike_153 : decode Y_LW_alike.2.1 153 = .ok (.aload_n 1, 1) := by decide +kernel
theorem d_LW_alike_154 : decode Y_LW_alike.2.1 154 = .ok (.iconst (4), 1) := by decide +kernel
theorem d_LW_alike_155 : decode Y_LW_alike.2.1 155 = .ok (.iload_n 2, 1) := by decide +kernel
theorem d_LW_alike_156 : decode Y_LW_alike.2.1 156 = .ok (.iconst (4), 1) := by decide +kernel
theorem d_LW_alike_157 : decode Y_LW_alike.2.1 157 = .ok (.idiv, 1) := by decide +kernel
theorem d_LW_alike_158 : decode Y_LW_alike.2.1 158 = .ok (.iconst (4), 1) := by decide +kernel
theorem d_LW_alike_159 : decode Y_LW_alike.2.1 159 = .ok (.irem, 1) := by decide +kernel
theorem d_LW_alike_160 : decode Y_LW_alike.2.1 160 = .ok (.iload 4, 2) := by decide +kernel
theorem d_LW_alike_162 : decode Y_LW_alike.2.1 162 = .ok (.iconst (0), 1) := by decide +kernel
theorem d_LW_alike_163 : decode Y_LW_alike.2.1 163 = .ok (.invokestatic 156, 3) := by decide +kernel
theorem d_LW_alike_166 : decode Y_LW_alike.2.1 166 = .ok (.if_icmp .ne (42), 3) := by decide +kernel
theorem d_LW_alike_169 : decode Y_LW_alike.2.1 169 = .ok (.aload_n 0, 1) := by decide +kernel
theorem d_LW_alike_170 : decode Y_LW_alike.2.1 170 = .ok (.bipush (7), 2) := by decide +kernel
theorem d_LW_alike_172 : decode Y_LW_alike.2.1 172 = .ok (.iload_n 2, 1) := by decide +kernel
theorem d_LW_alike_173 : decode Y_LW_alike.2.1 173 = .ok (.iconst (4), 1) := by decide +kernel
theorem d_LW_alike_174 : decode Y_LW_alike.2.1 174 = .ok (.idiv, 1) := by decide +kernel
theorem d_LW_alike_175 : decode Y_LW_alike.2.1 175 = .ok (.iconst (4), 1) := by decide +kernel
theorem d_LW_alike_176 : decode Y_LW_alike.2.1 176 = .ok (.irem, 1) := by decide +kernel
theorem d_LW_alike_177 : decode Y_LW_alike.2.1 177 = .ok (.iload_n 2, 1) := by decide +kernel
theorem d_LW_alike_178 : decode Y_LW_alike.2.1 178 = .ok (.iconst (4), 1) := by decide +kernel
theorem d_LW_alike_179 : decode Y_LW_alike.2.1 179 = .ok (.irem, 1) := by decide +kernel
theorem d_LW_alike_180 : decode Y_LW_alike.2.1 180 = .ok (.iload 4, 2) := by decide +kernel
theorem d_LW_alike_182 : decode Y_LW_alike.2.1 182 = .ok (.invokestatic 156, 3) := by decide +kernel
theorem d_LW_alike_185 : decode Y_LW_alike.2.1 185 = .ok (.aload_n 1, 1) := by decide +kernel
theorem d_LW_alike_186 : decode Y_LW_alike.2.1 186 = .ok (.bipush (7), 2) := by decide +kernel
theorem d_LW_alike_188 : decode Y_LW_alike.2.1 188 = .ok (.iload_n 2, 1) := by decide +kernel
theorem d_LW_alike_189 : decode Y_LW_alike.2.1 189 = .ok (.iconst (4), 1) := by decide +kernel
theorem d_LW_alike_190 : decode Y_LW_alike.2.1 190 = .ok (.idiv, 1) := by decide +kernel
theorem d_LW_alike_191 : decode Y_LW_alike.2.1 191 = .ok (.iconst (4), 1) := by decide +kernel
theorem d_LW_alike_192 : decode Y_LW_alike.2.1 192 = .ok (.irem, 1) := by decide +kernel
theorem d_LW_alike_193 : decode Y_LW_alike.2.1 193 = .ok (.iload_n 2, 1) := by decide +kernel
theorem d_LW_alike_194 : decode Y_LW_alike.2.1 194 = .ok (.iconst (4), 1) := by decide +kernel
theorem d_LW_alike_195 : decode Y_LW_alike.2.1 195 = .ok (.irem, 1) := by decide +kernel
theorem d_LW_alike_196 : decode Y_LW_alike.2.1 196 = .ok (.iload 4, 2) := by decide +kernel
theorem d_LW_alike_198 : decode Y_LW_alike.2.1 198 = .ok (.invokestatic 156, 3) := by decide +kernel
theorem d_LW_alike_201 : decode Y_LW_alike.2.1 201 = .ok (.if_icmp .ne (7), 3) := by decide +kernel
theorem d_LW_alike_204 : decode Y_LW_alike.2.1 204 = .ok (.iconst (1), 1) := by decide +kernel
theorem d_LW_alike_205 : decode Y_LW_alike.2.1 205 = .ok (.goto (4), 3) := by decide +kernel
theorem d_LW_alike_208 : decode Y_LW_alike.2.1 208 = .ok (.iconst (0), 1) := by decide +kernel
theorem d_LW_alike_209 : decode Y_LW_alike.2.1 209 = .ok (.istore_n 3, 1) := by decide +kernel
theorem d_LW_alike_210 : decode Y_LW_alike.2.1 210 = .ok (.iinc 4 (1), 3) := by decide +kernel
theorem d_LW_alike_213 : decode Y_LW_alike.2.1 213 = .ok (.goto (-166), 3) := by decide +kernel
theorem d_LW_alike_216 : decode Y_LW_alike.2.1 216 = .ok (.iload_n 3, 1) := by decide +kernel
theorem d_LW_alike_217 : decode Y_LW_alike.2.1 217 = .ok (.ireturn, 1) := by decide +kernel
def f_LW_alike (w : zW) (D : zD) (r0 : Nat) (r1 : Nat) (x2 : Int32) : Option (Int32 × zD) := zjp (fun (s0 : Int32) (D1 : zD) => zjp (zlp (fun (_ : Int32) (_ : Int32) (_ : zD) => none) (fun (j47 : Int32 → Int32 → zD → Option (Int32 × zD)) (x3 : Int32) (x4 : Int32) (D3 : zD) => zjp (fun (x3 : Int32) (D5 : zD) => zchk (x3 = 0 ∨ x3 = 1) (some (x3, D5))) (fun j216 => (if (60 : Int32) ≤ x4 then j216 x3 D3 else (if x3 = 0 then j216 x3 D3 else zjp (fun (x4 : Int32) (s0 : Int32) (D7 : zD) => zlet (x4 + (1 : Int32)) (fun v9 => j47 s0 v9 D7)) (fun j209 => zjp (fun (x4 : Int32) (D10 : zD) => j209 x4 (0 : Int32) D10) (fun j208 => zci (f_LW_call w D3 r0 (6 : Int32) x4 (zirem x2 (6 : Int32)) (0 : Int32)) (fun v12 D13 => zci (f_LW_call w D13 r1 (6 : Int32) x4 (zirem x2 (6 : Int32)) (0 : Int32)) (fun v15 D16 => (if v12 = v15 then zjp (fun (x4 : Int32) (D18 : zD) => j209 x4 (1 : Int32) D18) (fun j204 => (if (9 : Int32) < x4 then j204 x4 D16 else zci (f_LW_call w D16 r0 (2 : Int32) x4 (0 : Int32) (0 : Int32)) (fun v20 D21 => zci (f_LW_call w D21 r1 (2 : Int32) x4 (0 : Int32) (0 : Int32)) (fun v23 D24 => (if v20 = v23 then zci (f_LW_call w D24 r0 (3 : Int32) (zirem x2 (4 : Int32)) x4 (0 : Int32)) (fun v26 D27 => zci (f_LW_call w D27 r1 (3 : Int32) (zirem x2 (4 : Int32)) x4 (0 : Int32)) (fun v29 D30 => (if v26 = v29 then zci (f_LW_call w D30 r0 (4 : Int32) (zirem (x2 / (4 : Int32)) (4 : Int32)) x4 (0 : Int32)) (fun v32 D33 => zci (f_LW_call w D33 r1 (4 : Int32) (zirem (x2 / (4 : Int32)) (4 : Int32)) x4 (0 : Int32)) (fun v35 D36 => (if v32 = v35 then zci (f_LW_call w D36 r0 (7 : Int32) (zirem (x2 / (4 : Int32)) (4 : Int32)) (zirem x2 (4 : Int32)) x4) (fun v38 D39 => zci (f_LW_call w D39 r1 (7 : Int32) (zirem (x2 / (4 : Int32)) (4 : Int32)) (zirem x2 (4 : Int32)) x4) (fun v41 D42 => (if v38 = v41 then j204 x4 D42 else j208 x4 D42))) else j208 x4 D36))) else j208 x4 D30))) else j208 x4 D24))))) else j208 x4 D16))))))))) 62) (fun j47 => j47 s0 (0 : Int32) D1)) (fun j43 => zjp (fun (D44 : zD) => j43 (0 : Int32) D44) (fun j42 => zci (f_LW_doSimulate w D r0 x2.toInt64 ((1 : Int32) + (zirem x2 (30 : Int32)))) (fun v46 D47 => zci (f_LW_doSimulate w D47 r1 x2.toInt64 ((1 : Int32) + (zirem x2 (30 : Int32)))) (fun v49 D50 => (if v46 = v49 then zobj w 0 r0 (zci (f_SF_quietIn w D50 r0 ) (fun v52 D53 => zobj w 0 r1 (zci (f_SF_quietIn w D53 r1 ) (fun v54 D55 => (if v52 = v54 then j43 (1 : Int32) D55 else j42 D55))))) else j42 D50)))))
set_option maxHeartbeats 8000000 in
set_option maxRecDepth 100000 in
theorem c_LW_alike (z : zT) (D : zD) (r0 : Nat) (r1 : Nat) (x2 : Int32) : zM Y_LW_alike 11 622 3732 (zqY z.2) (f_LW_alike z.2 D r0 r1 x2) [.ref r0, .ref r1, .int x2] z D := by
  refine zM_of (plainFor_of_name (by decide +kernel)) rfl (Nat.le_of_ble_eq_true rfl) (fun _ _ _ _ h => nomatch h.1) (fun K => ?_)
  obtain ⟨n0, w⟩ := z
  show zGO K Y_LW_alike 11 622 3732 (zqY w) (f_LW_alike w D r0 r1 x2) 622 3732 (n0, w) D 0 [(0, .ref r0), (1, .ref r1), (2, .int x2)] []
  unfold f_LW_alike
  refine z_jp (fun j43 : Int32 → zD → Option (Int32 × zD) => ∀ (s0 : Int32) (m2 : Nat) (D1 : zD), zGO K Y_LW_alike 11 622 3732 (zqY w) (j43 s0 D1) 620 3720 (m2, w) D1 43 [(0, .ref r0), (1, .ref r1), (2, .int x2)] [.int s0]) (fun s0 m2 D1 => ?_) (fun j43 h43 => ?_)
  · refine z_jp (fun j47 : Int32 → Int32 → zD → Option (Int32 × zD) => ∀ (x3 : Int32) (x4 : Int32) (m4 : Nat) (D3 : zD), zGO K Y_LW_alike 11 622 3732 (zqY w) (j47 x3 x4 D3) (62 * 10 + 0) (62 * 60 + 0) (m4, w) D3 47 [(0, .ref r0), (1, .ref r1), (2, .int x2), (3, .int x3), (4, .int x4)] []) (z_lpA (fun (n47 : Nat) (j47 : Int32 → Int32 → zD → Option (Int32 × zD)) => ∀ (x3 : Int32) (x4 : Int32) (m4 : Nat) (D3 : zD), zGO K Y_LW_alike 11 622 3732 (zqY w) (j47 x3 x4 D3) (n47 * 10 + 0) (n47 * 60 + 0) (m4, w) D3 47 [(0, .ref r0), (1, .ref r1), (2, .int x2), (3, .int x3), (4, .int x4)] []) (fun _ _ _ _ => z_none) (fun n47 j47 h47 x3 x4 m4 D3 => ?_) 62) (fun j47 h47 => ?_)
    · refine z_jp (fun j216 : Int32 → zD → Option (Int32 × zD) => ∀ (x3 : Int32) (m6 : Nat) (D5 : zD), zGO K Y_LW_alike 11 622 3732 (zqY w) (j216 x3 D5) 0 0 (m6, w) D5 216 [(3, .int x3)] []) (fun x3 m6 D5 => ?_) (fun j216 h216 => ?_)
      · refine z_iload_n (pc := 216) d_LW_alike_216 rfl 0 rfl ?_
        exact z_yretZ (pc := 217) rfl d_LW_alike_217 rfl
      · refine z_iload (pc := 47) d_LW_alike_47 4 rfl ?_
        refine z_bipush (pc := 49) d_LW_alike_49 kb_60 ?_
        refine z_icmp_ge (pc := 51) (tgt := 216) d_LW_alike_51 (by decide) ?_ ?_
        · refine z_kc (by omega) (by omega) (z_sub [3] rfl (h216 x3 m4 D3))
        · refine z_iload_n (pc := 54) d_LW_alike_54 rfl 3 rfl ?_
          refine z_if_eq (pc := 55) (tgt := 216) d_LW_alike_55 (by decide) ?_ ?_
          · refine z_kc (by omega) (by omega) (z_sub [3] rfl (h216 x3 m4 D3))
          · refine z_jp (fun j209 : Int32 → Int32 → zD → Option (Int32 × zD) => ∀ (x4 : Int32) (s0 : Int32) (m8 : Nat) (D7 : zD), zGO K Y_LW_alike 11 622 3732 (zqY w) (j209 x4 s0 D7) (n47 * 10 + 0) (n47 * 60 + 0) (m8, w) D7 209 [(0, .ref r0), (1, .ref r1), (2, .int x2), (4, .int x4)] [.int s0]) (fun x4 s0 m8 D7 => ?_) (fun j209 h209 => ?_)
            · refine z_istore_n (pc := 209) d_LW_alike_209 rfl (by decide) (lv' := [(3, .int s0), (0, .ref r0), (1, .ref r1), (2, .int x2), (4, .int x4)]) rfl ?_
              refine z_iincL (pc := 210) d_LW_alike_210 ki_1 4 rfl (by decide) (fun v9 => z_lvc (lv2 := [(4, .int v9), (3, .int s0), (0, .ref r0), (1, .ref r1), (2, .int x2)]) rfl ?_)
              refine z_goto (pc := 213) (tgt := 47) d_LW_alike_213 (by decide) ?_
              refine z_kc (by omega) (by omega) (z_sub [2, 3, 4, 1, 0] rfl (h47 s0 v9 m8 D7))
            · refine z_jp (fun j208 : Int32 → zD → Option (Int32 × zD) => ∀ (x4 : Int32) (m11 : Nat) (D10 : zD), zGO K Y_LW_alike 11 622 3732 (zqY w) (j208 x4 D10) (n47 * 10 + 0) (n47 * 60 + 0) (m11, w) D10 208 [(0, .ref r0), (1, .ref r1), (2, .int x2), (4, .int x4)] []) (fun x4 m11 D10 => ?_) (fun j208 h208 => ?_)
              · refine z_iconst (pc := 208) d_LW_alike_208 ki_0 ?_
                refine z_kc (by omega) (by omega) (z_sub [0, 1, 2, 3] rfl (h209 x4 (0 : Int32) m11 D10))
              · refine z_aload_n (pc := 58) d_LW_alike_58 rfl 0 rfl ?_
                refine z_bipush (pc := 59) d_LW_alike_59 kb_6 ?_
                refine z_iload (pc := 61) d_LW_alike_61 4 rfl ?_
                refine z_iload_n (pc := 63) d_LW_alike_63 rfl 2 rfl ?_
                refine z_bipush (pc := 64) d_LW_alike_64 kb_6 ?_
                refine z_iremK (pc := 66) d_LW_alike_66 (by decide) ?_
                refine z_iconst (pc := 67) d_LW_alike_67 ki_0 ?_
                refine z_callYA (pc := 68) (kc2 := (n47 * 10 + 9)) (ks2 := (n47 * 60 + 54)) [.ref r0, .int (6 : Int32), .int x4, .int (zirem x2 (6 : Int32)), .int (0 : Int32)] lkS_LW_156 (c_LW_call (m4, w) D3 r0 (6 : Int32) x4 (zirem x2 (6 : Int32)) (0 : Int32)) (by decide) (by omega) (by omega) rfl rfl (Nat.le_of_ble_eq_true rfl) d_LW_alike_68 (fun v12 D13 m14 => ?_)
                refine z_aload_n (pc := 71) d_LW_alike_71 rfl 1 rfl ?_
                refine z_bipush (pc := 72) d_LW_alike_72 kb_6 ?_
                refine z_iload (pc := 74) d_LW_alike_74 4 rfl ?_
                refine z_iload_n (pc := 76) d_LW_alike_76 rfl 2 rfl ?_
                refine z_bipush (pc := 77) d_LW_alike_77 kb_6 ?_
                refine z_iremK (pc := 79) d_LW_alike_79 (by decide) ?_
                refine z_iconst (pc := 80) d_LW_alike_80 ki_0 ?_
                refine z_callYA (pc := 81) (kc2 := (n47 * 10 + 8)) (ks2 := (n47 * 60 + 48)) [.ref r1, .int (6 : Int32), .int x4, .int (zirem x2 (6 : Int32)), .int (0 : Int32)] lkS_LW_156 (c_LW_call (m14, w) D13 r1 (6 : Int32) x4 (zirem x2 (6 : Int32)) (0 : Int32)) (by decide) (by omega) (by omega) rfl rfl (Nat.le_of_ble_eq_true rfl) d_LW_alike_81 (fun v15 D16 m17 => ?_)
                refine z_icmp_ne (pc := 84) (tgt := 208) d_LW_alike_84 (by decide) ?_ ?_
                · refine z_jp (fun j204 : Int32 → zD → Option (Int32 × zD) => ∀ (x4 : Int32) (m19 : Nat) (D18 : zD), zGO K Y_LW_alike 11 622 3732 (zqY w) (j204 x4 D18) (n47 * 10 + 0) (n47 * 60 + 0) (m19, w) D18 204 [(0, .ref r0), (1, .ref r1), (2, .int x2), (4, .int x4)] []) (fun x4 m19 D18 => ?_) (fun j204 h204 => ?_)
                  · refine z_iconst (pc := 204) d_LW_alike_204 ki_1 ?_
                    refine z_goto (pc := 205) (tgt := 209) d_LW_alike_205 (by decide) ?_
                    refine z_kc (by omega) (by omega) (z_sub [0, 1, 2, 3] rfl (h209 x4 (1 : Int32) m19 D18))
                  · refine z_iload (pc := 87) d_LW_alike_87 4 rfl ?_
                    refine z_bipush (pc := 89) d_LW_alike_89 kb_9 ?_
                    refine z_icmp_gt (pc := 91) (tgt := 204) d_LW_alike_91 (by decide) ?_ ?_
                    · refine z_kc (by omega) (by omega) (z_sub [0, 1, 2, 4] rfl (h204 x4 m17 D16))
                    · refine z_aload_n (pc := 94) d_LW_alike_94 rfl 0 rfl ?_
                      refine z_iconst (pc := 95) d_LW_alike_95 ki_2 ?_
                      refine z_iload (pc := 96) d_LW_alike_96 4 rfl ?_
                      refine z_iconst (pc := 98) d_LW_alike_98 ki_0 ?_
                      refine z_iconst (pc := 99) d_LW_alike_99 ki_0 ?_
                      refine z_callYA (pc := 100) (kc2 := (n47 * 10 + 7)) (ks2 := (n47 * 60 + 42)) [.ref r0, .int (2 : Int32), .int x4, .int (0 : Int32), .int (0 : Int32)] lkS_LW_156 (c_LW_call (m17, w) D16 r0 (2 : Int32) x4 (0 : Int32) (0 : Int32)) (by decide) (by omega) (by omega) rfl rfl (Nat.le_of_ble_eq_true rfl) d_LW_alike_100 (fun v20 D21 m22 => ?_)
                      refine z_aload_n (pc := 103) d_LW_alike_103 rfl 1 rfl ?_
                      refine z_iconst (pc := 104) d_LW_alike_104 ki_2 ?_
                      refine z_iload (pc := 105) d_LW_alike_105 4 rfl ?_
                      refine z_iconst (pc := 107) d_LW_alike_107 ki_0 ?_
                      refine z_iconst (pc := 108) d_LW_alike_108 ki_0 ?_
                      refine z_callYA (pc := 109) (kc2 := (n47 * 10 + 6)) (ks2 := (n47 * 60 + 36)) [.ref r1, .int (2 : Int32), .int x4, .int (0 : Int32), .int (0 : Int32)] lkS_LW_156 (c_LW_call (m22, w) D21 r1 (2 : Int32) x4 (0 : Int32) (0 : Int32)) (by decide) (by omega) (by omega) rfl rfl (Nat.le_of_ble_eq_true rfl) d_LW_alike_109 (fun v23 D24 m25 => ?_)
                      refine z_icmp_ne (pc := 112) (tgt := 208) d_LW_alike_112 (by decide) ?_ ?_
                      · refine z_aload_n (pc := 115) d_LW_alike_115 rfl 0 rfl ?_
                        refine z_iconst (pc := 116) d_LW_alike_116 ki_3 ?_
                        refine z_iload_n (pc := 117) d_LW_alike_117 rfl 2 rfl ?_
                        refine z_iconst (pc := 118) d_LW_alike_118 ki_4 ?_
                        refine z_iremK (pc := 119) d_LW_alike_119 (by decide) ?_
                        refine z_iload (pc := 120) d_LW_alike_120 4 rfl ?_
                        refine z_iconst (pc := 122) d_LW_alike_122 ki_0 ?_
                        refine z_callYA (pc := 123) (kc2 := (n47 * 10 + 5)) (ks2 := (n47 * 60 + 30)) [.ref r0, .int (3 : Int32), .int (zirem x2 (4 : Int32)), .int x4, .int (0 : Int32)] lkS_LW_156 (c_LW_call (m25, w) D24 r0 (3 : Int32) (zirem x2 (4 : Int32)) x4 (0 : Int32)) (by decide) (by omega) (by omega) rfl rfl (Nat.le_of_ble_eq_true rfl) d_LW_alike_123 (fun v26 D27 m28 => ?_)
                        refine z_aload_n (pc := 126) d_LW_alike_126 rfl 1 rfl ?_
                        refine z_iconst (pc := 127) d_LW_alike_127 ki_3 ?_
                        refine z_iload_n (pc := 128) d_LW_alike_128 rfl 2 rfl ?_
                        refine z_iconst (pc := 129) d_LW_alike_129 ki_4 ?_
                        refine z_iremK (pc := 130) d_LW_alike_130 (by decide) ?_
                        refine z_iload (pc := 131) d_LW_alike_131 4 rfl ?_
                        refine z_iconst (pc := 133) d_LW_alike_133 ki_0 ?_
                        refine z_callYA (pc := 134) (kc2 := (n47 * 10 + 4)) (ks2 := (n47 * 60 + 24)) [.ref r1, .int (3 : Int32), .int (zirem x2 (4 : Int32)), .int x4, .int (0 : Int32)] lkS_LW_156 (c_LW_call (m28, w) D27 r1 (3 : Int32) (zirem x2 (4 : Int32)) x4 (0 : Int32)) (by decide) (by omega) (by omega) rfl rfl (Nat.le_of_ble_eq_true rfl) d_LW_alike_134 (fun v29 D30 m31 => ?_)
                        refine z_icmp_ne (pc := 137) (tgt := 208) d_LW_alike_137 (by decide) ?_ ?_
                        · refine z_aload_n (pc := 140) d_LW_alike_140 rfl 0 rfl ?_
                          refine z_iconst (pc := 141) d_LW_alike_141 ki_4 ?_
                          refine z_iload_n (pc := 142) d_LW_alike_142 rfl 2 rfl ?_
                          refine z_iconst (pc := 143) d_LW_alike_143 ki_4 ?_
                          refine z_idivK (pc := 144) d_LW_alike_144 (by decide) ?_
                          refine z_iconst (pc := 145) d_LW_alike_145 ki_4 ?_
                          refine z_iremK (pc := 146) d_LW_alike_146 (by decide) ?_
                          refine z_iload (pc := 147) d_LW_alike_147 4 rfl ?_
                          refine z_iconst (pc := 149) d_LW_alike_149 ki_0 ?_
                          refine z_callYA (pc := 150) (kc2 := (n47 * 10 + 3)) (ks2 := (n47 * 60 + 18)) [.ref r0, .int (4 : Int32), .int (zirem (x2 / (4 : Int32)) (4 : Int32)), .int x4, .int (0 : Int32)] lkS_LW_156 (c_LW_call (m31, w) D30 r0 (4 : Int32) (zirem (x2 / (4 : Int32)) (4 : Int32)) x4 (0 : Int32)) (by decide) (by omega) (by omega) rfl rfl (Nat.le_of_ble_eq_true rfl) d_LW_alike_150 (fun v32 D33 m34 => ?_)
                          refine z_aload_n (pc := 153) d_LW_alike_153 rfl 1 rfl ?_
                          refine z_iconst (pc := 154) d_LW_alike_154 ki_4 ?_
                          refine z_iload_n (pc := 155) d_LW_alike_155 rfl 2 rfl ?_
                          refine z_iconst (pc := 156) d_LW_alike_156 ki_4 ?_
                          refine z_idivK (pc := 157) d_LW_alike_157 (by decide) ?_
                          refine z_iconst (pc := 158) d_LW_alike_158 ki_4 ?_
                          refine z_iremK (pc := 159) d_LW_alike_159 (by decide) ?_
                          refine z_iload (pc := 160) d_LW_alike_160 4 rfl ?_
                          refine z_iconst (pc := 162) d_LW_alike_162 ki_0 ?_
                          refine z_callYA (pc := 163) (kc2 := (n47 * 10 + 2)) (ks2 := (n47 * 60 + 12)) [.ref r1, .int (4 : Int32), .int (zirem (x2 / (4 : Int32)) (4 : Int32)), .int x4, .int (0 : Int32)] lkS_LW_156 (c_LW_call (m34, w) D33 r1 (4 : Int32) (zirem (x2 / (4 : Int32)) (4 : Int32)) x4 (0 : Int32)) (by decide) (by omega) (by omega) rfl rfl (Nat.le_of_ble_eq_true rfl) d_LW_alike_163 (fun v35 D36 m37 => ?_)
                          refine z_icmp_ne (pc := 166) (tgt := 208) d_LW_alike_166 (by decide) ?_ ?_
                          · refine z_aload_n (pc := 169) d_LW_alike_169 rfl 0 rfl ?_
                            refine z_bipush (pc := 170) d_LW_alike_170 kb_7 ?_
                            refine z_iload_n (pc := 172) d_LW_alike_172 rfl 2 rfl ?_
                            refine z_iconst (pc := 173) d_LW_alike_173 ki_4 ?_
                            refine z_idivK (pc := 174) d_LW_alike_174 (by decide) ?_
                            refine z_iconst (pc := 175) d_LW_alike_175 ki_4 ?_
                            refine z_iremK (pc := 176) d_LW_alike_176 (by decide) ?_
                            refine z_iload_n (pc := 177) d_LW_alike_177 rfl 2 rfl ?_
                            refine z_iconst (pc := 178) d_LW_alike_178 ki_4 ?_
                            refine z_iremK (pc := 179) d_LW_alike_179 (by decide) ?_
                            refine z_iload (pc := 180) d_LW_alike_180 4 rfl ?_
                            refine z_callYA (pc := 182) (kc2 := (n47 * 10 + 1)) (ks2 := (n47 * 60 + 6)) [.ref r0, .int (7 : Int32), .int (zirem (x2 / (4 : Int32)) (4 : Int32)), .int (zirem x2 (4 : Int32)), .int x4] lkS_LW_156 (c_LW_call (m37, w) D36 r0 (7 : Int32) (zirem (x2 / (4 : Int32)) (4 : Int32)) (zirem x2 (4 : Int32)) x4) (by decide) (by omega) (by omega) rfl rfl (Nat.le_of_ble_eq_true rfl) d_LW_alike_182 (fun v38 D39 m40 => ?_)
                            refine z_aload_n (pc := 185) d_LW_alike_185 rfl 1 rfl ?_
                            refine z_bipush (pc := 186) d_LW_alike_186 kb_7 ?_
                            refine z_iload_n (pc := 188) d_LW_alike_188 rfl 2 rfl ?_
                            refine z_iconst (pc := 189) d_LW_alike_189 ki_4 ?_
                            refine z_idivK (pc := 190) d_LW_alike_190 (by decide) ?_
                            refine z_iconst (pc := 191) d_LW_alike_191 ki_4 ?_
                            refine z_iremK (pc := 192) d_LW_alike_192 (by decide) ?_
                            refine z_iload_n (pc := 193) d_LW_alike_193 rfl 2 rfl ?_
                            refine z_iconst (pc := 194) d_LW_alike_194 ki_4 ?_
                            refine z_iremK (pc := 195) d_LW_alike_195 (by decide) ?_
                            refine z_iload (pc := 196) d_LW_alike_196 4 rfl ?_
                            refine z_callYA (pc := 198) (kc2 := (n47 * 10 + 0)) (ks2 := (n47 * 60 + 0)) [.ref r1, .int (7 : Int32), .int (zirem (x2 / (4 : Int32)) (4 : Int32)), .int (zirem x2 (4 : Int32)), .int x4] lkS_LW_156 (c_LW_call (m40, w) D39 r1 (7 : Int32) (zirem (x2 / (4 : Int32)) (4 : Int32)) (zirem x2 (4 : Int32)) x4) (by decide) (by omega) (by omega) rfl rfl (Nat.le_of_ble_eq_true rfl) d_LW_alike_198 (fun v41 D42 m43 => ?_)
                            refine z_icmp_ne (pc := 201) (tgt := 208) d_LW_alike_201 (by decide) ?_ ?_
                            · refine z_kc (by omega) (by omega) (z_sub [0, 1, 2, 4] rfl (h204 x4 m43 D42))
                            · refine z_kc (by omega) (by omega) (z_sub [0, 1, 2, 4] rfl (h208 x4 m43 D42))
                          · refine z_kc (by omega) (by omega) (z_sub [0, 1, 2, 4] rfl (h208 x4 m37 D36))
                        · refine z_kc (by omega) (by omega) (z_sub [0, 1, 2, 4] rfl (h208 x4 m31 D30))
                      · refine z_kc (by omega) (by omega) (z_sub [0, 1, 2, 4] rfl (h208 x4 m25 D24))
                · refine z_kc (by omega) (by omega) (z_sub [0, 1, 2, 4] rfl (h208 x4 m17 D16))
    · refine z_istore_n (pc := 43) d_LW_alike_43 rfl (by decide) (lv' := [(3, .int s0), (0, .ref r0), (1, .ref r1), (2, .int x2)]) rfl ?_
      refine z_iconst (pc := 44) d_LW_alike_44 ki_0 ?_
      refine z_istore (pc := 45) d_LW_alike_45 (by decide) (lv' := [(4, .int (0 : Int32)), (3, .int s0), (0, .ref r0), (1, .ref r1), (2, .int x2)]) rfl ?_
      refine z_kc (by omega) (by omega) (z_sub [2, 3, 4, 1, 0] rfl (h47 s0 (0 : Int32) m2 D1))
  · refine z_jp (fun j42 : zD → Option (Int32 × zD) => ∀ (m45 : Nat) (D44 : zD), zGO K Y_LW_alike 11 622 3732 (zqY w) (j42 D44) 620 3720 (m45, w) D44 42 [(0, .ref r0), (1, .ref r1), (2, .int x2)] []) (fun m45 D44 => ?_) (fun j42 h42 => ?_)
    · refine z_iconst (pc := 42) d_LW_alike_42 ki_0 ?_
      refine z_kc (by omega) (by omega) (z_sub [0, 1, 2] rfl (h43 (0 : Int32) m45 D44))
    · refine z_aload_n (pc := 0) d_LW_alike_0 rfl 0 rfl ?_
      refine z_iload_n (pc := 1) d_LW_alike_1 rfl 2 rfl ?_
      refine z_i2l (pc := 2) d_LW_alike_2 ?_
      refine z_iconst (pc := 3) d_LW_alike_3 ki_1 ?_
      refine z_iload_n (pc := 4) d_LW_alike_4 rfl 2 rfl ?_
      refine z_bipush (pc := 5) d_LW_alike_5 kb_30 ?_
      refine z_iremK (pc := 7) d_LW_alike_7 (by decide) ?_
      refine z_iadd (pc := 8) d_LW_alike_8 ?_
      refine z_callYH (pc := 9) (kc2 := 621) (ks2 := 3726) [.ref r0, .long x2.toInt64, .int ((1 : Int32) + (zirem x2 (30 : Int32)))] lkH_LW_181 (c_LW_doSimulate (n0, w) D r0 x2.toInt64 ((1 : Int32) + (zirem x2 (30 : Int32)))) (by decide) (by omega) (by omega) rfl rfl (Nat.le_of_ble_eq_true rfl) d_LW_alike_9 (fun v46 D47 m48 => ?_)
      refine z_aload_n (pc := 12) d_LW_alike_12 rfl 1 rfl ?_
      refine z_iload_n (pc := 13) d_LW_alike_13 rfl 2 rfl ?_
      refine z_i2l (pc := 14) d_LW_alike_14 ?_
      refine z_iconst (pc := 15) d_LW_alike_15 ki_1 ?_
      refine z_iload_n (pc := 16) d_LW_alike_16 rfl 2 rfl ?_
      refine z_bipush (pc := 17) d_LW_alike_17 kb_30 ?_
      refine z_iremK (pc := 19) d_LW_alike_19 (by decide) ?_
      refine z_iadd (pc := 20) d_LW_alike_20 ?_
      refine z_callYH (pc := 21) (kc2 := 620) (ks2 := 3720) [.ref r1, .long x2.toInt64, .int ((1 : Int32) + (zirem x2 (30 : Int32)))] lkH_LW_181 (c_LW_doSimulate (m48, w) D47 r1 x2.toInt64 ((1 : Int32) + (zirem x2 (30 : Int32)))) (by decide) (by omega) (by omega) rfl rfl (Nat.le_of_ble_eq_true rfl) d_LW_alike_21 (fun v49 D50 m51 => ?_)
      refine z_icmp_ne (pc := 24) (tgt := 42) d_LW_alike_24 (by decide) ?_ ?_
      · refine z_aload_n (pc := 27) d_LW_alike_27 rfl 0 rfl ?_
        refine z_callVi (pc := 28) [] lkV_LW_188 rfl (c_SF_quietIn (m51, w) D50 r0 ) (by decide) rfl rfl (Nat.le_of_ble_eq_true rfl) d_LW_alike_28 (fun v52 D53 => ?_)
        refine z_aload_n (pc := 31) d_LW_alike_31 rfl 1 rfl ?_
        refine z_callVi (pc := 32) [] lkV_LW_188 rfl (c_SF_quietIn (m51, w) D53 r1 ) (by decide) rfl rfl (Nat.le_of_ble_eq_true rfl) d_LW_alike_32 (fun v54 D55 => ?_)
        refine z_icmp_ne (pc := 35) (tgt := 42) d_LW_alike_35 (by decide) ?_ ?_
        · refine z_iconst (pc := 38) d_LW_alike_38 ki_1 ?_
          refine z_goto (pc := 39) (tgt := 43) d_LW_alike_39 (by decide) ?_
          refine z_kc (by omega) (by omega) (z_sub [0, 1, 2] rfl (h43 (1 : Int32) m51 D55))
        · refine z_kc (by omega) (by omega) (z_sub [0, 1, 2] rfl (h42 m51 D55))
      · refine z_kc (by omega) (by omega) (z_sub [0, 1, 2] rfl (h42 m51 D50))
