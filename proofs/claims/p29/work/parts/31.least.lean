def Y_LW_least : zY := (⟨"SirenFairLaw", "least", "(LSirenFair;LSirenFair;I)Z"⟩, method_37_code, 10, some .boolean, [])
theorem d_LW_least_0 : decode Y_LW_least.2.1 0 = .ok (.iconst (1), 1) := by decide +kernel
theorem d_LW_least_1 : decode Y_LW_least.2.1 1 = .ok (.iload_n 2, 1) := by decide +kernel
theorem d_LW_least_2 : decode Y_LW_least.2.1 2 = .ok (.bipush (60), 2) := by decide +kernel
theorem d_LW_least_4 : decode Y_LW_least.2.1 4 = .ok (.irem, 1) := by decide +kernel
theorem d_LW_least_5 : decode Y_LW_least.2.1 5 = .ok (.iadd, 1) := by decide +kernel
theorem d_LW_least_6 : decode Y_LW_least.2.1 6 = .ok (.istore_n 3, 1) := by decide +kernel
theorem d_LW_least_7 : decode Y_LW_least.2.1 7 = .ok (.aload_n 0, 1) := by decide +kernel
theorem d_LW_least_8 : decode Y_LW_least.2.1 8 = .ok (.bipush (14), 2) := by decide +kernel
theorem d_LW_least_10 : decode Y_LW_least.2.1 10 = .ok (.iload_n 3, 1) := by decide +kernel
theorem d_LW_least_11 : decode Y_LW_least.2.1 11 = .ok (.iconst (0), 1) := by decide +kernel
theorem d_LW_least_12 : decode Y_LW_least.2.1 12 = .ok (.iconst (0), 1) := by decide +kernel
theorem d_LW_least_13 : decode Y_LW_least.2.1 13 = .ok (.invokestatic 156, 3) := by decide +kernel
theorem d_LW_least_16 : decode Y_LW_least.2.1 16 = .ok (.istore 4, 2) := by decide +kernel
theorem d_LW_least_18 : decode Y_LW_least.2.1 18 = .ok (.aload_n 0, 1) := by decide +kernel
theorem d_LW_least_19 : decode Y_LW_least.2.1 19 = .ok (.iconst (2), 1) := by decide +kernel
theorem d_LW_least_20 : decode Y_LW_least.2.1 20 = .ok (.bipush (8), 2) := by decide +kernel
theorem d_LW_least_22 : decode Y_LW_least.2.1 22 = .ok (.iconst (0), 1) := by decide +kernel
theorem d_LW_least_23 : decode Y_LW_least.2.1 23 = .ok (.iconst (0), 1) := by decide +kernel
theorem d_LW_least_24 : decode Y_LW_least.2.1 24 = .ok (.invokestatic 156, 3) := by decide +kernel
theorem d_LW_least_27 : decode Y_LW_least.2.1 27 = .ok (.istore 5, 2) := by decide +kernel
theorem d_LW_least_29 : decode Y_LW_least.2.1 29 = .ok (.iload 4, 2) := by decide +kernel
theorem d_LW_least_31 : decode Y_LW_least.2.1 31 = .ok (.iconst (-1), 1) := by decide +kernel
theorem d_LW_least_32 : decode Y_LW_least.2.1 32 = .ok (.if_icmp .ne (8), 3) := by decide +kernel
theorem d_LW_least_35 : decode Y_LW_least.2.1 35 = .ok (.bipush (9), 2) := by decide +kernel
theorem d_LW_least_37 : decode Y_LW_least.2.1 37 = .ok (.goto (5), 3) := by decide +kernel
theorem d_LW_least_40 : decode Y_LW_least.2.1 40 = .ok (.iload 4, 2) := by decide +kernel
theorem d_LW_least_42 : decode Y_LW_least.2.1 42 = .ok (.istore 6, 2) := by decide +kernel
theorem d_LW_least_44 : decode Y_LW_least.2.1 44 = .ok (.iconst (1), 1) := by decide +kernel
theorem d_LW_least_45 : decode Y_LW_least.2.1 45 = .ok (.istore 7, 2) := by decide +kernel
theorem d_LW_least_47 : decode Y_LW_least.2.1 47 = .ok (.iconst (1), 1) := by decide +kernel
theorem d_LW_least_48 : decode Y_LW_least.2.1 48 = .ok (.istore 8, 2) := by decide +kernel
theorem d_LW_least_50 : decode Y_LW_least.2.1 50 = .ok (.iload 8, 2) := by decide +kernel
theorem d_LW_least_52 : decode Y_LW_least.2.1 52 = .ok (.iload 6, 2) := by decide +kernel
theorem d_LW_least_54 : decode Y_LW_least.2.1 54 = .ok (.if_icmp .gt (135), 3) := by decide +kernel
theorem d_LW_least_57 : decode Y_LW_least.2.1 57 = .ok (.iload 7, 2) := by decide +kernel
theorem d_LW_least_59 : decode Y_LW_least.2.1 59 = .ok (.ifCond .eq (130), 3) := by decide +kernel
theorem d_LW_least_62 : decode Y_LW_least.2.1 62 = .ok (.aload_n 0, 1) := by decide +kernel
theorem d_LW_least_63 : decode Y_LW_least.2.1 63 = .ok (.bipush (10), 2) := by decide +kernel
theorem d_LW_least_65 : decode Y_LW_least.2.1 65 = .ok (.iconst (0), 1) := by decide +kernel
theorem d_LW_least_66 : decode Y_LW_least.2.1 66 = .ok (.iload 8, 2) := by decide +kernel
theorem d_LW_least_68 : decode Y_LW_least.2.1 68 = .ok (.iconst (0), 1) := by decide +kernel
theorem d_LW_least_69 : decode Y_LW_least.2.1 69 = .ok (.invokestatic 156, 3) := by decide +kernel
theorem d_LW_least_72 : decode Y_LW_least.2.1 72 = .ok (.istore 9, 2) := by decide +kernel
theorem d_LW_least_74 : decode Y_LW_least.2.1 74 = .ok (.iload 9, 2) := by decide +kernel
theorem d_LW_least_76 : decode Y_LW_least.2.1 76 = .ok (.ifCond .le (104), 3) := by decide +kernel
theorem d_LW_least_79 : decode Y_LW_least.2.1 79 = .ok (.aload_n 1, 1) := by decide +kernel
theorem d_LW_least_80 : decode Y_LW_least.2.1 80 = .ok (.bipush (10), 2) := by decide +kernel
theorem d_LW_least_82 : decode Y_LW_least.2.1 82 = .ok (.iconst (0), 1) := by decide +kernel
theorem d_LW_least_83 : decode Y_LW_least.2.1 83 = .ok (.iload 8, 2) := by decide +kernel
theorem d_LW_least_85 : decode Y_LW_least.2.1 85 = .ok (.iconst (0), 1) := by decide +kernel
theorem d_LW_least_86 : decode Y_LW_least.2.1 86 = .ok (.invokestatic 156, 3) := by decide +kernel
theorem d_LW_least_89 : decode Y_LW_least.2.1 89 = .ok (.iload 9, 2) := by decide +kernel
theorem d_LW_least_91 : decode Y_LW_least.2.1 91 = .ok (.if_icmp .ne (89), 3) := by decide +kernel
theorem d_LW_least_94 : decode Y_LW_least.2.1 94 = .ok (.aload_n 0, 1) := by decide +kernel
theorem d_LW_least_95 : decode Y_LW_least.2.1 95 = .ok (.aload_n 1, 1) := by decide +kernel
theorem d_LW_least_96 : decode Y_LW_least.2.1 96 = .ok (.iload_n 3, 1) := by decide +kernel
theorem d_LW_least_97 : decode Y_LW_least.2.1 97 = .ok (.invokestatic 223, 3) := by decide +kernel
theorem d_LW_least_100 : decode Y_LW_least.2.1 100 = .ok (.ifCond .eq (80), 3) := by decide +kernel
theorem d_LW_least_103 : decode Y_LW_least.2.1 103 = .ok (.aload_n 0, 1) := by decide +kernel
theorem d_LW_least_104 : decode Y_LW_least.2.1 104 = .ok (.iconst (2), 1) := by decide +kernel
theorem d_LW_least_105 : decode Y_LW_least.2.1 105 = .ok (.bipush (8), 2) := by decide +kernel
theorem d_LW_least_107 : decode Y_LW_least.2.1 107 = .ok (.iconst (0), 1) := by decide +kernel
theorem d_LW_least_108 : decode Y_LW_least.2.1 108 = .ok (.iconst (0), 1) := by decide +kernel
theorem d_LW_least_109 : decode Y_LW_least.2.1 109 = .ok (.invokestatic 156, 3) := by decide +kernel
theorem d_LW_least_112 : decode Y_LW_least.2.1 112 = .ok (.iload 5, 2) := by decide +kernel
theorem d_LW_least_114 : decode Y_LW_least.2.1 114 = .ok (.if_icmp .ne (7), 3) := by decide +kernel
theorem d_LW_least_117 : decode Y_LW_least.2.1 117 = .ok (.iconst (1), 1) := by decide +kernel
theorem d_LW_least_118 : decode Y_LW_least.2.1 118 = .ok (.goto (4), 3) := by decide +kernel
theorem d_LW_least_121 : decode Y_LW_least.2.1 121 = .ok (.iconst (0), 1) := by decide +kernel
theorem d_LW_least_122 : decode Y_LW_least.2.1 122 = .ok (.iload 8, 2) := by decide +kernel
theorem d_LW_least_124 : decode Y_LW_least.2.1 124 = .ok (.iload 4, 2) := by decide +kernel
theorem d_LW_least_126 : decode Y_LW_least.2.1 126 = .ok (.if_icmp .ne (7), 3) := by decide +kernel
theorem d_LW_least_129 : decode Y_LW_least.2.1 129 = .ok (.iconst (1), 1) := by decide +kernel
theorem d_LW_least_130 : decode Y_LW_least.2.1 130 = .ok (.goto (4), 3) := by decide +kernel
theorem d_LW_least_133 : decode Y_LW_least.2.1 133 = .ok (.iconst (0), 1) := by decide +kernel
theorem d_LW_least_134 : decode Y_LW_least.2.1 134 = .ok (.if_icmp .ne (46), 3) := by decide +kernel
theorem d_LW_least_137 : decode Y_LW_least.2.1 137 = .ok (.aload_n 0, 1) := by decide +kernel
theorem d_LW_least_138 : decode Y_LW_least.2.1 138 = .ok (.aload_n 1, 1) := by decide +kernel
theorem d_LW_least_139 : decode Y_LW_least.2.1 139 = .ok (.iload_n 3, 1) := by decide +kernel
theorem d_LW_least_140 : decode Y_LW_least.2.1 140 = .ok (.invokestatic 226, 3) := by decide +kernel
theorem d_LW_least_143 : decode Y_LW_least.2.1 143 = .ok (.ifCond .eq (37), 3) := by decide +kernel
theorem d_LW_least_146 : decode Y_LW_least.2.1 146 = .ok (.aload_n 0, 1) := by decide +kernel
theorem d_LW_least_147 : decode Y_LW_least.2.1 147 = .ok (.bipush (11), 2) := by decide +kernel
theorem d_LW_least_149 : decode Y_LW_least.2.1 149 = .ok (.iconst (0), 1) := by decide +kernel
theorem d_LW_least_150 : decode Y_LW_least.2.1 150 = .ok (.iconst (0), 1) := by decide +kernel
theorem d_LW_least_151 : decode Y_LW_least.2.1 151 = .ok (.iconst (0), 1) := by decide +kernel
theorem d_LW_least_152 : decode Y_LW_least.2.1 152 = .ok (.invokestatic 156, 3) := by decide +kernel
theorem d_LW_least_155 : decode Y_LW_least.2.1 155 = .ok (.invokestatic 219, 3) := by decide +kernel
theorem d_LW_least_158 : decode Y_LW_least.2.1 158 = .ok (.ifCond .ne (22), 3) := by decide +kernel
theorem d_LW_least_161 : decode Y_LW_least.2.1 161 = .ok (.aload_n 1, 1) := by decide +kernel
theorem d_LW_least_162 : decode Y_LW_least.2.1 162 = .ok (.bipush (11), 2) := by decide +kernel
theorem d_LW_least_164 : decode Y_LW_least.2.1 164 = .ok (.iconst (0), 1) := by decide +kernel
theorem d_LW_least_165 : decode Y_LW_least.2.1 165 = .ok (.iconst (0), 1) := by decide +kernel
theorem d_LW_least_166 : decode Y_LW_least.2.1 166 = .ok (.iconst (0), 1) := by decide +kernel
theorem d_LW_least_167 : decode Y_LW_least.2.1 167 = .ok (.invokestatic 156, 3) := by decide +kernel
theorem d_LW_least_170 : decode Y_LW_least.2.1 170 = .ok (.invokestatic 219, 3) := by decide +kernel
theorem d_LW_least_173 : decode Y_LW_least.2.1 173 = .ok (.ifCond .ne (7), 3) := by decide +kernel
theorem d_LW_least_176 : decode Y_LW_least.2.1 176 = .ok (.iconst (1), 1) := by decide +kernel
theorem d_LW_least_177 : decode Y_LW_least.2.1 177 = .ok (.goto (4), 3) := by decide +kernel
theorem d_LW_least_180 : decode Y_LW_least.2.1 180 = .ok (.iconst (0), 1) := by decide +kernel
theorem d_LW_least_181 : decode Y_LW_least.2.1 181 = .ok (.istore 7, 2) := by decide +kernel
theorem d_LW_least_183 : decode Y_LW_least.2.1 183 = .ok (.iinc 8 (1), 3) := by decide +kernel
theorem d_LW_least_186 : decode Y_LW_least.2.1 186 = .ok (.goto (-136), 3) := by decide +kernel
theorem d_LW_least_189 : decode Y_LW_least.2.1 189 = .ok (.iload 7, 2) := by decide +kernel
theorem d_LW_least_191 : decode Y_LW_least.2.1 191 = .ok (.ifCond .eq (35), 3) := by decide +kernel
theorem d_LW_least_194 : decode Y_LW_least.2.1 194 = .ok (.aload_n 0, 1) := by decide +kernel
theorem d_LW_least_195 : decode Y_LW_least.2.1 195 = .ok (.iconst (2), 1) := by decide +kernel
theorem d_LW_least_196 : decode Y_LW_least.2.1 196 = .ok (.bipush (8), 2) := by decide +kernel
theorem d_LW_least_198 : decode Y_LW_least.2.1 198 = .ok (.iconst (0), 1) := by decide +kernel
theorem d_LW_least_199 : decode Y_LW_least.2.1 199 = .ok (.iconst (0), 1) := by decide +kernel
theorem d_LW_least_200 : decode Y_LW_least.2.1 200 = .ok (.invokestatic 156, 3) := by decide +kernel
theorem d_LW_least_203 : decode Y_LW_least.2.1 203 = .ok (.iload 5, 2) := by decide +kernel
theorem d_LW_least_205 : decode Y_LW_least.2.1 205 = .ok (.if_icmp .ne (21), 3) := by decide +kernel
theorem d_LW_least_208 : decode Y_LW_least.2.1 208 = .ok (.aload_n 0, 1) := by decide +kernel
theorem d_LW_least_209 : decode Y_LW_least.2.1 209 = .ok (.bipush (14), 2) := by decide +kernel
theorem d_LW_least_211 : decode Y_LW_least.2.1 211 = .ok (.iload_n 3, 1) := by decide +kernel
theorem d_LW_least_212 : decode Y_LW_least.2.1 212 = .ok (.iconst (0), 1) := by decide +kernel
theorem d_LW_least_213 : decode Y_LW_least.2.1 213 = .ok (.iconst (0), 1) := by decide +kernel
theorem d_LW_least_214 : decode Y_LW_least.2.1 214 = .ok (.invokestatic 156, 3) := by decide +kernel
theorem d_LW_least_217 : decode Y_LW_least.2.1 217 = .ok (.iload 4, 2) := by decide +kernel
theorem d_LW_least_219 : decode Y_LW_least.2.1 219 = .ok (.if_icmp .ne (7), 3) := by decide +kernel
theorem d_LW_least_222 : decode Y_LW_least.2.1 222 = .ok (.iconst (1), 1) := by decide +kernel
theorem d_LW_least_223 : decode Y_LW_least.2.1 223 = .ok (.goto (4), 3) := by decide +kernel
theorem d_LW_least_226 : decode Y_LW_least.2.1 226 = .ok (.iconst (0), 1) := by decide +kernel
theorem d_LW_least_227 : decode Y_LW_least.2.1 227 = .ok (.ireturn, 1) := by decide +kernel
def f_LW_least (w : zW) (D : zD) (r0 : Nat) (r1 : Nat) (x2 : Int32) : Option (Int32 × zD) := zjp (fun (x3 : Int32) (x4 : Int32) (x5 : Int32) (s0 : Int32) (D1 : zD) => zjp (zlp (fun (_ : Int32) (_ : Int32) (_ : Int32) (_ : Int32) (_ : Int32) (_ : Int32) (_ : zD) => none) (fun (j50 : Int32 → Int32 → Int32 → Int32 → Int32 → Int32 → zD → Option (Int32 × zD)) (x3 : Int32) (x4 : Int32) (x5 : Int32) (x6 : Int32) (x7 : Int32) (x8 : Int32) (D3 : zD) => zjp (fun (x3 : Int32) (x4 : Int32) (x5 : Int32) (x7 : Int32) (D5 : zD) => zjp (fun (s0 : Int32) (D7 : zD) => zchk (s0 = 0 ∨ s0 = 1) (some (s0, D7))) (fun j227 => zjp (fun (D9 : zD) => j227 (0 : Int32) D9) (fun j226 => (if x7 = 0 then j226 D5 else zci (f_LW_call w D5 r0 (2 : Int32) (8 : Int32) (0 : Int32) (0 : Int32)) (fun v11 D12 => (if v11 = x5 then zci (f_LW_call w D12 r0 (14 : Int32) x3 (0 : Int32) (0 : Int32)) (fun v14 D15 => (if v14 = x4 then j227 (1 : Int32) D15 else j226 D15)) else j226 D12)))))) (fun j189 => (if x6 < x8 then j189 x3 x4 x5 x7 D3 else (if x7 = 0 then j189 x3 x4 x5 x7 D3 else zjp (fun (x3 : Int32) (x4 : Int32) (x5 : Int32) (x6 : Int32) (x8 : Int32) (s0 : Int32) (D17 : zD) => zlet (x8 + (1 : Int32)) (fun v19 => j50 x3 x4 x5 x6 s0 v19 D17)) (fun j181 => zjp (fun (x3 : Int32) (x4 : Int32) (x5 : Int32) (x6 : Int32) (x8 : Int32) (D20 : zD) => j181 x3 x4 x5 x6 x8 (0 : Int32) D20) (fun j180 => zci (f_LW_call w D3 r0 (10 : Int32) (0 : Int32) x8 (0 : Int32)) (fun v22 D23 => (if v22 ≤ 0 then j180 x3 x4 x5 x6 x8 D23 else zci (f_LW_call w D23 r1 (10 : Int32) (0 : Int32) x8 (0 : Int32)) (fun v25 D26 => (if v25 = v22 then zci (f_LW_waits w D26 r0 r1 x3) (fun v28 D29 => (if v28 = 0 then j180 x3 x4 x5 x6 x8 D29 else zjp (fun (x3 : Int32) (x4 : Int32) (x5 : Int32) (x6 : Int32) (x8 : Int32) (s0 : Int32) (D31 : zD) => zjp (fun (x3 : Int32) (x4 : Int32) (x5 : Int32) (x6 : Int32) (x8 : Int32) (s0 : Int32) (s1 : Int32) (D33 : zD) => (if s0 = s1 then zci (f_LW_undoes w D33 r0 r1 x3) (fun v35 D36 => (if v35 = 0 then j180 x3 x4 x5 x6 x8 D36 else zci (f_LW_call w D36 r0 (11 : Int32) (0 : Int32) (0 : Int32) (0 : Int32)) (fun v38 D39 => zci (f_LW_thrown w D39 v38) (fun v41 D42 => (if v41 = 0 then zci (f_LW_call w D42 r1 (11 : Int32) (0 : Int32) (0 : Int32) (0 : Int32)) (fun v43 D44 => zci (f_LW_thrown w D44 v43) (fun v46 D47 => (if v46 = 0 then j181 x3 x4 x5 x6 x8 (1 : Int32) D47 else j180 x3 x4 x5 x6 x8 D47))) else j180 x3 x4 x5 x6 x8 D42))))) else j180 x3 x4 x5 x6 x8 D33)) (fun j134 => (if x8 = x4 then j134 x3 x4 x5 x6 x8 s0 (1 : Int32) D31 else j134 x3 x4 x5 x6 x8 s0 (0 : Int32) D31))) (fun j122 => zci (f_LW_call w D29 r0 (2 : Int32) (8 : Int32) (0 : Int32) (0 : Int32)) (fun v48 D49 => (if v48 = x5 then j122 x3 x4 x5 x6 x8 (1 : Int32) D49 else j122 x3 x4 x5 x6 x8 (0 : Int32) D49))))) else j180 x3 x4 x5 x6 x8 D26)))))))))) 11) (fun j50 => j50 x3 x4 x5 s0 (1 : Int32) (1 : Int32) D1)) (fun j42 => zlet ((1 : Int32) + (zirem x2 (60 : Int32))) (fun v51 => zci (f_LW_call w D r0 (14 : Int32) v51 (0 : Int32) (0 : Int32)) (fun v52 D53 => zci (f_LW_call w D53 r0 (2 : Int32) (8 : Int32) (0 : Int32) (0 : Int32)) (fun v55 D56 => (if v52 = (-1 : Int32) then j42 v51 v52 v55 (9 : Int32) D56 else j42 v51 v52 v55 v52 D56)))))
set_option maxHeartbeats 8000000 in
set_option maxRecDepth 100000 in
theorem c_LW_least (z : zT) (D : zD) (r0 : Nat) (r1 : Nat) (x2 : Int32) : zM Y_LW_least 12 323 1938 (zqY z.2) (f_LW_least z.2 D r0 r1 x2) [.ref r0, .ref r1, .int x2] z D := by
  refine zM_of (plainFor_of_name (by decide +kernel)) rfl (Nat.le_of_ble_eq_true rfl) (fun _ _ _ _ h => nomatch h.1) (fun K => ?_)
  obtain ⟨n0, w⟩ := z
  show zGO K Y_LW_least 12 323 1938 (zqY w) (f_LW_least w D r0 r1 x2) 323 1938 (n0, w) D 0 [(0, .ref r0), (1, .ref r1), (2, .int x2)] []
  unfold f_LW_least
  refine z_jp (fun j42 : Int32 → Int32 → Int32 → Int32 → zD → Option (Int32 × zD) => ∀ (x3 : Int32) (x4 : Int32) (x5 : Int32) (s0 : Int32) (m2 : Nat) (D1 : zD), zGO K Y_LW_least 12 323 1938 (zqY w) (j42 x3 x4 x5 s0 D1) 321 1926 (m2, w) D1 42 [(0, .ref r0), (1, .ref r1), (3, .int x3), (4, .int x4), (5, .int x5)] [.int s0]) (fun x3 x4 x5 s0 m2 D1 => ?_) (fun j42 h42 => ?_)
  · refine z_jp (fun j50 : Int32 → Int32 → Int32 → Int32 → Int32 → Int32 → zD → Option (Int32 × zD) => ∀ (x3 : Int32) (x4 : Int32) (x5 : Int32) (x6 : Int32) (x7 : Int32) (x8 : Int32) (m4 : Nat) (D3 : zD), zGO K Y_LW_least 12 323 1938 (zqY w) (j50 x3 x4 x5 x6 x7 x8 D3) (11 * 29 + 2) (11 * 174 + 12) (m4, w) D3 50 [(0, .ref r0), (1, .ref r1), (3, .int x3), (4, .int x4), (5, .int x5), (6, .int x6), (7, .int x7), (8, .int x8)] []) (z_lpA (fun (n50 : Nat) (j50 : Int32 → Int32 → Int32 → Int32 → Int32 → Int32 → zD → Option (Int32 × zD)) => ∀ (x3 : Int32) (x4 : Int32) (x5 : Int32) (x6 : Int32) (x7 : Int32) (x8 : Int32) (m4 : Nat) (D3 : zD), zGO K Y_LW_least 12 323 1938 (zqY w) (j50 x3 x4 x5 x6 x7 x8 D3) (n50 * 29 + 2) (n50 * 174 + 12) (m4, w) D3 50 [(0, .ref r0), (1, .ref r1), (3, .int x3), (4, .int x4), (5, .int x5), (6, .int x6), (7, .int x7), (8, .int x8)] []) (fun _ _ _ _ _ _ _ _ => z_none) (fun n50 j50 h50 x3 x4 x5 x6 x7 x8 m4 D3 => ?_) 11) (fun j50 h50 => ?_)
    · refine z_jp (fun j189 : Int32 → Int32 → Int32 → Int32 → zD → Option (Int32 × zD) => ∀ (x3 : Int32) (x4 : Int32) (x5 : Int32) (x7 : Int32) (m6 : Nat) (D5 : zD), zGO K Y_LW_least 12 323 1938 (zqY w) (j189 x3 x4 x5 x7 D5) 2 12 (m6, w) D5 189 [(0, .ref r0), (3, .int x3), (4, .int x4), (5, .int x5), (7, .int x7)] []) (fun x3 x4 x5 x7 m6 D5 => ?_) (fun j189 h189 => ?_)
      · refine z_jp (fun j227 : Int32 → zD → Option (Int32 × zD) => ∀ (s0 : Int32) (m8 : Nat) (D7 : zD), zGO K Y_LW_least 12 323 1938 (zqY w) (j227 s0 D7) 0 0 (m8, w) D7 227 [] [.int s0]) (fun s0 m8 D7 => ?_) (fun j227 h227 => ?_)
        · exact z_yretZ (pc := 227) rfl d_LW_least_227 rfl
        · refine z_jp (fun j226 : zD → Option (Int32 × zD) => ∀ (m10 : Nat) (D9 : zD), zGO K Y_LW_least 12 323 1938 (zqY w) (j226 D9) 0 0 (m10, w) D9 226 [] []) (fun m10 D9 => ?_) (fun j226 h226 => ?_)
          · refine z_iconst (pc := 226) d_LW_least_226 ki_0 ?_
            refine z_kc (by omega) (by omega) (z_sub [] rfl (h227 (0 : Int32) m10 D9))
          · refine z_iload (pc := 189) d_LW_least_189 4 rfl ?_
            refine z_if_eq (pc := 191) (tgt := 226) d_LW_least_191 (by decide) ?_ ?_
            · refine z_kc (by omega) (by omega) (z_sub [] rfl (h226 m6 D5))
            · refine z_aload_n (pc := 194) d_LW_least_194 rfl 0 rfl ?_
              refine z_iconst (pc := 195) d_LW_least_195 ki_2 ?_
              refine z_bipush (pc := 196) d_LW_least_196 kb_8 ?_
              refine z_iconst (pc := 198) d_LW_least_198 ki_0 ?_
              refine z_iconst (pc := 199) d_LW_least_199 ki_0 ?_
              refine z_callYA (pc := 200) (kc2 := 1) (ks2 := 6) [.ref r0, .int (2 : Int32), .int (8 : Int32), .int (0 : Int32), .int (0 : Int32)] lkS_LW_156 (c_LW_call (m6, w) D5 r0 (2 : Int32) (8 : Int32) (0 : Int32) (0 : Int32)) (by decide) (by omega) (by omega) rfl rfl (Nat.le_of_ble_eq_true rfl) d_LW_least_200 (fun v11 D12 m13 => ?_)
              refine z_iload (pc := 203) d_LW_least_203 3 rfl ?_
              refine z_icmp_ne (pc := 205) (tgt := 226) d_LW_least_205 (by decide) ?_ ?_
              · refine z_aload_n (pc := 208) d_LW_least_208 rfl 0 rfl ?_
                refine z_bipush (pc := 209) d_LW_least_209 kb_14 ?_
                refine z_iload_n (pc := 211) d_LW_least_211 rfl 1 rfl ?_
                refine z_iconst (pc := 212) d_LW_least_212 ki_0 ?_
                refine z_iconst (pc := 213) d_LW_least_213 ki_0 ?_
                refine z_callYA (pc := 214) (kc2 := 0) (ks2 := 0) [.ref r0, .int (14 : Int32), .int x3, .int (0 : Int32), .int (0 : Int32)] lkS_LW_156 (c_LW_call (m13, w) D12 r0 (14 : Int32) x3 (0 : Int32) (0 : Int32)) (by decide) (by omega) (by omega) rfl rfl (Nat.le_of_ble_eq_true rfl) d_LW_least_214 (fun v14 D15 m16 => ?_)
                refine z_iload (pc := 217) d_LW_least_217 2 rfl ?_
                refine z_icmp_ne (pc := 219) (tgt := 226) d_LW_least_219 (by decide) ?_ ?_
                · refine z_iconst (pc := 222) d_LW_least_222 ki_1 ?_
                  refine z_goto (pc := 223) (tgt := 227) d_LW_least_223 (by decide) ?_
                  refine z_kc (by omega) (by omega) (z_sub [] rfl (h227 (1 : Int32) m16 D15))
                · refine z_kc (by omega) (by omega) (z_sub [] rfl (h226 m16 D15))
              · refine z_kc (by omega) (by omega) (z_sub [] rfl (h226 m13 D12))
      · refine z_iload (pc := 50) d_LW_least_50 7 rfl ?_
        refine z_iload (pc := 52) d_LW_least_52 5 rfl ?_
        refine z_icmp_gt (pc := 54) (tgt := 189) d_LW_least_54 (by decide) ?_ ?_
        · refine z_kc (by omega) (by omega) (z_sub [0, 2, 3, 4, 6] rfl (h189 x3 x4 x5 x7 m4 D3))
        · refine z_iload (pc := 57) d_LW_least_57 6 rfl ?_
          refine z_if_eq (pc := 59) (tgt := 189) d_LW_least_59 (by decide) ?_ ?_
          · refine z_kc (by omega) (by omega) (z_sub [0, 2, 3, 4, 6] rfl (h189 x3 x4 x5 x7 m4 D3))
          · refine z_jp (fun j181 : Int32 → Int32 → Int32 → Int32 → Int32 → Int32 → zD → Option (Int32 × zD) => ∀ (x3 : Int32) (x4 : Int32) (x5 : Int32) (x6 : Int32) (x8 : Int32) (s0 : Int32) (m18 : Nat) (D17 : zD), zGO K Y_LW_least 12 323 1938 (zqY w) (j181 x3 x4 x5 x6 x8 s0 D17) (n50 * 29 + 2) (n50 * 174 + 12) (m18, w) D17 181 [(0, .ref r0), (1, .ref r1), (3, .int x3), (4, .int x4), (5, .int x5), (6, .int x6), (8, .int x8)] [.int s0]) (fun x3 x4 x5 x6 x8 s0 m18 D17 => ?_) (fun j181 h181 => ?_)
            · refine z_istore (pc := 181) d_LW_least_181 (by decide) (lv' := [(7, .int s0), (0, .ref r0), (1, .ref r1), (3, .int x3), (4, .int x4), (5, .int x5), (6, .int x6), (8, .int x8)]) rfl ?_
              refine z_iincL (pc := 183) d_LW_least_183 ki_1 7 rfl (by decide) (fun v19 => z_lvc (lv2 := [(8, .int v19), (7, .int s0), (0, .ref r0), (1, .ref r1), (3, .int x3), (4, .int x4), (5, .int x5), (6, .int x6)]) rfl ?_)
              refine z_goto (pc := 186) (tgt := 50) d_LW_least_186 (by decide) ?_
              refine z_kc (by omega) (by omega) (z_sub [2, 3, 4, 5, 6, 7, 1, 0] rfl (h50 x3 x4 x5 x6 s0 v19 m18 D17))
            · refine z_jp (fun j180 : Int32 → Int32 → Int32 → Int32 → Int32 → zD → Option (Int32 × zD) => ∀ (x3 : Int32) (x4 : Int32) (x5 : Int32) (x6 : Int32) (x8 : Int32) (m21 : Nat) (D20 : zD), zGO K Y_LW_least 12 323 1938 (zqY w) (j180 x3 x4 x5 x6 x8 D20) (n50 * 29 + 2) (n50 * 174 + 12) (m21, w) D20 180 [(0, .ref r0), (1, .ref r1), (3, .int x3), (4, .int x4), (5, .int x5), (6, .int x6), (8, .int x8)] []) (fun x3 x4 x5 x6 x8 m21 D20 => ?_) (fun j180 h180 => ?_)
              · refine z_iconst (pc := 180) d_LW_least_180 ki_0 ?_
                refine z_kc (by omega) (by omega) (z_sub [0, 1, 2, 3, 4, 5, 6] rfl (h181 x3 x4 x5 x6 x8 (0 : Int32) m21 D20))
              · refine z_aload_n (pc := 62) d_LW_least_62 rfl 0 rfl ?_
                refine z_bipush (pc := 63) d_LW_least_63 kb_10 ?_
                refine z_iconst (pc := 65) d_LW_least_65 ki_0 ?_
                refine z_iload (pc := 66) d_LW_least_66 7 rfl ?_
                refine z_iconst (pc := 68) d_LW_least_68 ki_0 ?_
                refine z_callYA (pc := 69) (kc2 := (n50 * 29 + 30)) (ks2 := (n50 * 174 + 180)) [.ref r0, .int (10 : Int32), .int (0 : Int32), .int x8, .int (0 : Int32)] lkS_LW_156 (c_LW_call (m4, w) D3 r0 (10 : Int32) (0 : Int32) x8 (0 : Int32)) (by decide) (by omega) (by omega) rfl rfl (Nat.le_of_ble_eq_true rfl) d_LW_least_69 (fun v22 D23 m24 => ?_)
                refine z_istore (pc := 72) d_LW_least_72 (by decide) (lv' := [(9, .int v22), (0, .ref r0), (1, .ref r1), (3, .int x3), (4, .int x4), (5, .int x5), (6, .int x6), (7, .int x7), (8, .int x8)]) rfl ?_
                refine z_iload (pc := 74) d_LW_least_74 0 rfl ?_
                refine z_if_le (pc := 76) (tgt := 180) d_LW_least_76 (by decide) ?_ ?_
                · refine z_kc (by omega) (by omega) (z_sub [1, 2, 3, 4, 5, 6, 8] rfl (h180 x3 x4 x5 x6 x8 m24 D23))
                · refine z_aload_n (pc := 79) d_LW_least_79 rfl 2 rfl ?_
                  refine z_bipush (pc := 80) d_LW_least_80 kb_10 ?_
                  refine z_iconst (pc := 82) d_LW_least_82 ki_0 ?_
                  refine z_iload (pc := 83) d_LW_least_83 8 rfl ?_
                  refine z_iconst (pc := 85) d_LW_least_85 ki_0 ?_
                  refine z_callYA (pc := 86) (kc2 := (n50 * 29 + 29)) (ks2 := (n50 * 174 + 174)) [.ref r1, .int (10 : Int32), .int (0 : Int32), .int x8, .int (0 : Int32)] lkS_LW_156 (c_LW_call (m24, w) D23 r1 (10 : Int32) (0 : Int32) x8 (0 : Int32)) (by decide) (by omega) (by omega) rfl rfl (Nat.le_of_ble_eq_true rfl) d_LW_least_86 (fun v25 D26 m27 => ?_)
                  refine z_iload (pc := 89) d_LW_least_89 0 rfl ?_
                  refine z_icmp_ne (pc := 91) (tgt := 180) d_LW_least_91 (by decide) ?_ ?_
                  · refine z_aload_n (pc := 94) d_LW_least_94 rfl 1 rfl ?_
                    refine z_aload_n (pc := 95) d_LW_least_95 rfl 2 rfl ?_
                    refine z_iload_n (pc := 96) d_LW_least_96 rfl 3 rfl ?_
                    refine z_callYA (pc := 97) (kc2 := (n50 * 29 + 17)) (ks2 := (n50 * 174 + 102)) [.ref r0, .ref r1, .int x3] lkS_LW_223 (c_LW_waits (m27, w) D26 r0 r1 x3) (by decide) (by omega) (by omega) rfl rfl (Nat.le_of_ble_eq_true rfl) d_LW_least_97 (fun v28 D29 m30 => ?_)
                    refine z_if_eq (pc := 100) (tgt := 180) d_LW_least_100 (by decide) ?_ ?_
                    · refine z_kc (by omega) (by omega) (z_sub [1, 2, 3, 4, 5, 6, 8] rfl (h180 x3 x4 x5 x6 x8 m30 D29))
                    · refine z_jp (fun j122 : Int32 → Int32 → Int32 → Int32 → Int32 → Int32 → zD → Option (Int32 × zD) => ∀ (x3 : Int32) (x4 : Int32) (x5 : Int32) (x6 : Int32) (x8 : Int32) (s0 : Int32) (m32 : Nat) (D31 : zD), zGO K Y_LW_least 12 323 1938 (zqY w) (j122 x3 x4 x5 x6 x8 s0 D31) (n50 * 29 + 16) (n50 * 174 + 96) (m32, w) D31 122 [(0, .ref r0), (1, .ref r1), (3, .int x3), (4, .int x4), (5, .int x5), (6, .int x6), (8, .int x8)] [.int s0]) (fun x3 x4 x5 x6 x8 s0 m32 D31 => ?_) (fun j122 h122 => ?_)
                      · refine z_jp (fun j134 : Int32 → Int32 → Int32 → Int32 → Int32 → Int32 → Int32 → zD → Option (Int32 × zD) => ∀ (x3 : Int32) (x4 : Int32) (x5 : Int32) (x6 : Int32) (x8 : Int32) (s0 : Int32) (s1 : Int32) (m34 : Nat) (D33 : zD), zGO K Y_LW_least 12 323 1938 (zqY w) (j134 x3 x4 x5 x6 x8 s0 s1 D33) (n50 * 29 + 16) (n50 * 174 + 96) (m34, w) D33 134 [(0, .ref r0), (1, .ref r1), (3, .int x3), (4, .int x4), (5, .int x5), (6, .int x6), (8, .int x8)] [.int s1, .int s0]) (fun x3 x4 x5 x6 x8 s0 s1 m34 D33 => ?_) (fun j134 h134 => ?_)
                        · refine z_icmp_ne (pc := 134) (tgt := 180) d_LW_least_134 (by decide) ?_ ?_
                          · refine z_aload_n (pc := 137) d_LW_least_137 rfl 0 rfl ?_
                            refine z_aload_n (pc := 138) d_LW_least_138 rfl 1 rfl ?_
                            refine z_iload_n (pc := 139) d_LW_least_139 rfl 2 rfl ?_
                            refine z_callYA (pc := 140) (kc2 := (n50 * 29 + 4)) (ks2 := (n50 * 174 + 24)) [.ref r0, .ref r1, .int x3] lkS_LW_226 (c_LW_undoes (m34, w) D33 r0 r1 x3) (by decide) (by omega) (by omega) rfl rfl (Nat.le_of_ble_eq_true rfl) d_LW_least_140 (fun v35 D36 m37 => ?_)
                            refine z_if_eq (pc := 143) (tgt := 180) d_LW_least_143 (by decide) ?_ ?_
                            · refine z_kc (by omega) (by omega) (z_sub [0, 1, 2, 3, 4, 5, 6] rfl (h180 x3 x4 x5 x6 x8 m37 D36))
                            · refine z_aload_n (pc := 146) d_LW_least_146 rfl 0 rfl ?_
                              refine z_bipush (pc := 147) d_LW_least_147 kb_11 ?_
                              refine z_iconst (pc := 149) d_LW_least_149 ki_0 ?_
                              refine z_iconst (pc := 150) d_LW_least_150 ki_0 ?_
                              refine z_iconst (pc := 151) d_LW_least_151 ki_0 ?_
                              refine z_callYA (pc := 152) (kc2 := (n50 * 29 + 3)) (ks2 := (n50 * 174 + 18)) [.ref r0, .int (11 : Int32), .int (0 : Int32), .int (0 : Int32), .int (0 : Int32)] lkS_LW_156 (c_LW_call (m37, w) D36 r0 (11 : Int32) (0 : Int32) (0 : Int32) (0 : Int32)) (by decide) (by omega) (by omega) rfl rfl (Nat.le_of_ble_eq_true rfl) d_LW_least_152 (fun v38 D39 m40 => ?_)
                              refine z_callSi (pc := 155) [.int v38] lkS_LW_219 (c_LW_thrown (m40, w) D39 v38) (by decide) rfl rfl (Nat.le_of_ble_eq_true rfl) d_LW_least_155 (fun v41 D42 => ?_)
                              refine z_if_ne (pc := 158) (tgt := 180) d_LW_least_158 (by decide) ?_ ?_
                              · refine z_aload_n (pc := 161) d_LW_least_161 rfl 1 rfl ?_
                                refine z_bipush (pc := 162) d_LW_least_162 kb_11 ?_
                                refine z_iconst (pc := 164) d_LW_least_164 ki_0 ?_
                                refine z_iconst (pc := 165) d_LW_least_165 ki_0 ?_
                                refine z_iconst (pc := 166) d_LW_least_166 ki_0 ?_
                                refine z_callYA (pc := 167) (kc2 := (n50 * 29 + 2)) (ks2 := (n50 * 174 + 12)) [.ref r1, .int (11 : Int32), .int (0 : Int32), .int (0 : Int32), .int (0 : Int32)] lkS_LW_156 (c_LW_call (m40, w) D42 r1 (11 : Int32) (0 : Int32) (0 : Int32) (0 : Int32)) (by decide) (by omega) (by omega) rfl rfl (Nat.le_of_ble_eq_true rfl) d_LW_least_167 (fun v43 D44 m45 => ?_)
                                refine z_callSi (pc := 170) [.int v43] lkS_LW_219 (c_LW_thrown (m45, w) D44 v43) (by decide) rfl rfl (Nat.le_of_ble_eq_true rfl) d_LW_least_170 (fun v46 D47 => ?_)
                                refine z_if_ne (pc := 173) (tgt := 180) d_LW_least_173 (by decide) ?_ ?_
                                · refine z_iconst (pc := 176) d_LW_least_176 ki_1 ?_
                                  refine z_goto (pc := 177) (tgt := 181) d_LW_least_177 (by decide) ?_
                                  refine z_kc (by omega) (by omega) (z_sub [0, 1, 2, 3, 4, 5, 6] rfl (h181 x3 x4 x5 x6 x8 (1 : Int32) m45 D47))
                                · refine z_kc (by omega) (by omega) (z_sub [0, 1, 2, 3, 4, 5, 6] rfl (h180 x3 x4 x5 x6 x8 m45 D47))
                              · refine z_kc (by omega) (by omega) (z_sub [0, 1, 2, 3, 4, 5, 6] rfl (h180 x3 x4 x5 x6 x8 m40 D42))
                          · refine z_kc (by omega) (by omega) (z_sub [0, 1, 2, 3, 4, 5, 6] rfl (h180 x3 x4 x5 x6 x8 m34 D33))
                        · refine z_iload (pc := 122) d_LW_least_122 6 rfl ?_
                          refine z_iload (pc := 124) d_LW_least_124 3 rfl ?_
                          refine z_icmp_ne (pc := 126) (tgt := 133) d_LW_least_126 (by decide) ?_ ?_
                          · refine z_iconst (pc := 129) d_LW_least_129 ki_1 ?_
                            refine z_goto (pc := 130) (tgt := 134) d_LW_least_130 (by decide) ?_
                            refine z_kc (by omega) (by omega) (z_sub [0, 1, 2, 3, 4, 5, 6] rfl (h134 x3 x4 x5 x6 x8 s0 (1 : Int32) m32 D31))
                          · refine z_iconst (pc := 133) d_LW_least_133 ki_0 ?_
                            refine z_kc (by omega) (by omega) (z_sub [0, 1, 2, 3, 4, 5, 6] rfl (h134 x3 x4 x5 x6 x8 s0 (0 : Int32) m32 D31))
                      · refine z_aload_n (pc := 103) d_LW_least_103 rfl 1 rfl ?_
                        refine z_iconst (pc := 104) d_LW_least_104 ki_2 ?_
                        refine z_bipush (pc := 105) d_LW_least_105 kb_8 ?_
                        refine z_iconst (pc := 107) d_LW_least_107 ki_0 ?_
                        refine z_iconst (pc := 108) d_LW_least_108 ki_0 ?_
                        refine z_callYA (pc := 109) (kc2 := (n50 * 29 + 16)) (ks2 := (n50 * 174 + 96)) [.ref r0, .int (2 : Int32), .int (8 : Int32), .int (0 : Int32), .int (0 : Int32)] lkS_LW_156 (c_LW_call (m30, w) D29 r0 (2 : Int32) (8 : Int32) (0 : Int32) (0 : Int32)) (by decide) (by omega) (by omega) rfl rfl (Nat.le_of_ble_eq_true rfl) d_LW_least_109 (fun v48 D49 m50 => ?_)
                        refine z_iload (pc := 112) d_LW_least_112 5 rfl ?_
                        refine z_icmp_ne (pc := 114) (tgt := 121) d_LW_least_114 (by decide) ?_ ?_
                        · refine z_iconst (pc := 117) d_LW_least_117 ki_1 ?_
                          refine z_goto (pc := 118) (tgt := 122) d_LW_least_118 (by decide) ?_
                          refine z_kc (by omega) (by omega) (z_sub [1, 2, 3, 4, 5, 6, 8] rfl (h122 x3 x4 x5 x6 x8 (1 : Int32) m50 D49))
                        · refine z_iconst (pc := 121) d_LW_least_121 ki_0 ?_
                          refine z_kc (by omega) (by omega) (z_sub [1, 2, 3, 4, 5, 6, 8] rfl (h122 x3 x4 x5 x6 x8 (0 : Int32) m50 D49))
                  · refine z_kc (by omega) (by omega) (z_sub [1, 2, 3, 4, 5, 6, 8] rfl (h180 x3 x4 x5 x6 x8 m27 D26))
    · refine z_istore (pc := 42) d_LW_least_42 (by decide) (lv' := [(6, .int s0), (0, .ref r0), (1, .ref r1), (3, .int x3), (4, .int x4), (5, .int x5)]) rfl ?_
      refine z_iconst (pc := 44) d_LW_least_44 ki_1 ?_
      refine z_istore (pc := 45) d_LW_least_45 (by decide) (lv' := [(7, .int (1 : Int32)), (6, .int s0), (0, .ref r0), (1, .ref r1), (3, .int x3), (4, .int x4), (5, .int x5)]) rfl ?_
      refine z_iconst (pc := 47) d_LW_least_47 ki_1 ?_
      refine z_istore (pc := 48) d_LW_least_48 (by decide) (lv' := [(8, .int (1 : Int32)), (7, .int (1 : Int32)), (6, .int s0), (0, .ref r0), (1, .ref r1), (3, .int x3), (4, .int x4), (5, .int x5)]) rfl ?_
      refine z_kc (by omega) (by omega) (z_sub [3, 4, 5, 6, 7, 2, 1, 0] rfl (h50 x3 x4 x5 s0 (1 : Int32) (1 : Int32) m2 D1))
  · refine z_iconst (pc := 0) d_LW_least_0 ki_1 ?_
    refine z_iload_n (pc := 1) d_LW_least_1 rfl 2 rfl ?_
    refine z_bipush (pc := 2) d_LW_least_2 kb_60 ?_
    refine z_iremK (pc := 4) d_LW_least_4 (by decide) ?_
    refine z_iadd (pc := 5) d_LW_least_5 ?_
    refine z_leti (fun v51 => ?_)
    refine z_istore_n (pc := 6) d_LW_least_6 rfl (by decide) (lv' := [(3, .int v51), (0, .ref r0), (1, .ref r1), (2, .int x2)]) rfl ?_
    refine z_aload_n (pc := 7) d_LW_least_7 rfl 1 rfl ?_
    refine z_bipush (pc := 8) d_LW_least_8 kb_14 ?_
    refine z_iload_n (pc := 10) d_LW_least_10 rfl 0 rfl ?_
    refine z_iconst (pc := 11) d_LW_least_11 ki_0 ?_
    refine z_iconst (pc := 12) d_LW_least_12 ki_0 ?_
    refine z_callYA (pc := 13) (kc2 := 322) (ks2 := 1932) [.ref r0, .int (14 : Int32), .int v51, .int (0 : Int32), .int (0 : Int32)] lkS_LW_156 (c_LW_call (n0, w) D r0 (14 : Int32) v51 (0 : Int32) (0 : Int32)) (by decide) (by omega) (by omega) rfl rfl (Nat.le_of_ble_eq_true rfl) d_LW_least_13 (fun v52 D53 m54 => ?_)
    refine z_istore (pc := 16) d_LW_least_16 (by decide) (lv' := [(4, .int v52), (3, .int v51), (0, .ref r0), (1, .ref r1), (2, .int x2)]) rfl ?_
    refine z_aload_n (pc := 18) d_LW_least_18 rfl 2 rfl ?_
    refine z_iconst (pc := 19) d_LW_least_19 ki_2 ?_
    refine z_bipush (pc := 20) d_LW_least_20 kb_8 ?_
    refine z_iconst (pc := 22) d_LW_least_22 ki_0 ?_
    refine z_iconst (pc := 23) d_LW_least_23 ki_0 ?_
    refine z_callYA (pc := 24) (kc2 := 321) (ks2 := 1926) [.ref r0, .int (2 : Int32), .int (8 : Int32), .int (0 : Int32), .int (0 : Int32)] lkS_LW_156 (c_LW_call (m54, w) D53 r0 (2 : Int32) (8 : Int32) (0 : Int32) (0 : Int32)) (by decide) (by omega) (by omega) rfl rfl (Nat.le_of_ble_eq_true rfl) d_LW_least_24 (fun v55 D56 m57 => ?_)
    refine z_istore (pc := 27) d_LW_least_27 (by decide) (lv' := [(5, .int v55), (4, .int v52), (3, .int v51), (0, .ref r0), (1, .ref r1), (2, .int x2)]) rfl ?_
    refine z_iload (pc := 29) d_LW_least_29 1 rfl ?_
    refine z_iconst (pc := 31) d_LW_least_31 ki_m1 ?_
    refine z_icmp_ne (pc := 32) (tgt := 40) d_LW_least_32 (by decide) ?_ ?_
    · refine z_bipush (pc := 35) d_LW_least_35 kb_9 ?_
      refine z_goto (pc := 37) (tgt := 42) d_LW_least_37 (by decide) ?_
      refine z_kc (by omega) (by omega) (z_sub [3, 4, 2, 1, 0] rfl (h42 v51 v52 v55 (9 : Int32) m57 D56))
    · refine z_iload (pc := 40) d_LW_least_40 1 rfl ?_
      refine z_kc (by omega) (by omega) (z_sub [3, 4, 2, 1, 0] rfl (h42 v51 v52 v55 v52 m57 D56))
