def Y_LW_undoes : zY := (⟨"SirenFairLaw", "undoes", "(LSirenFair;LSirenFair;I)Z"⟩, method_35_code, 5, some .boolean, [])
theorem w_c_LW_thrown : Cond.code Y_LW_thrown.1 Y_LW_thrown.2.1 Y_LW_thrown.2.2.1 Y_LW_thrown.2.2.2.1 ∈ zWd := zin 967 (by decide +kernel) rfl
theorem lk_LW_thrown : zlk Y_LW_thrown 1 := ⟨w_c_LW_thrown, w_ini_LW, by decide +kernel, by decide +kernel, by decide⟩
theorem w_ml_LW_219 : Cond.methodLink "SirenFairLaw" 219 Y_LW_thrown.1 ∈ zWd := zin 965 (by decide +kernel) rfl
theorem w_st_LW_thrown : Cond.static Y_LW_thrown.1 ∈ zWd := zin 966 (by decide +kernel) rfl
theorem lkS_LW_219 : zlkS "SirenFairLaw" 219 Y_LW_thrown 1 := ⟨lk_LW_thrown, w_ml_LW_219, w_st_LW_thrown⟩
theorem d_LW_undoes_0 : decode Y_LW_undoes.2.1 0 = .ok (.iconst (1), 1) := by decide +kernel
theorem d_LW_undoes_1 : decode Y_LW_undoes.2.1 1 = .ok (.istore_n 3, 1) := by decide +kernel
theorem d_LW_undoes_2 : decode Y_LW_undoes.2.1 2 = .ok (.iload_n 2, 1) := by decide +kernel
theorem d_LW_undoes_3 : decode Y_LW_undoes.2.1 3 = .ok (.istore 4, 2) := by decide +kernel
theorem d_LW_undoes_5 : decode Y_LW_undoes.2.1 5 = .ok (.iload 4, 2) := by decide +kernel
theorem d_LW_undoes_7 : decode Y_LW_undoes.2.1 7 = .ok (.ifCond .le (49), 3) := by decide +kernel
theorem d_LW_undoes_10 : decode Y_LW_undoes.2.1 10 = .ok (.iload_n 3, 1) := by decide +kernel
theorem d_LW_undoes_11 : decode Y_LW_undoes.2.1 11 = .ok (.ifCond .eq (45), 3) := by decide +kernel
theorem d_LW_undoes_14 : decode Y_LW_undoes.2.1 14 = .ok (.aload_n 0, 1) := by decide +kernel
theorem d_LW_undoes_15 : decode Y_LW_undoes.2.1 15 = .ok (.bipush (11), 2) := by decide +kernel
theorem d_LW_undoes_17 : decode Y_LW_undoes.2.1 17 = .ok (.iconst (0), 1) := by decide +kernel
theorem d_LW_undoes_18 : decode Y_LW_undoes.2.1 18 = .ok (.iconst (0), 1) := by decide +kernel
theorem d_LW_undoes_19 : decode Y_LW_undoes.2.1 19 = .ok (.iconst (0), 1) := by decide +kernel
theorem d_LW_undoes_20 : decode Y_LW_undoes.2.1 20 = .ok (.invokestatic 156, 3) := by decide +kernel
theorem d_LW_undoes_23 : decode Y_LW_undoes.2.1 23 = .ok (.invokestatic 219, 3) := by decide +kernel
theorem d_LW_undoes_26 : decode Y_LW_undoes.2.1 26 = .ok (.ifCond .ne (22), 3) := by decide +kernel
theorem d_LW_undoes_29 : decode Y_LW_undoes.2.1 29 = .ok (.aload_n 1, 1) := by decide +kernel
theorem d_LW_undoes_30 : decode Y_LW_undoes.2.1 30 = .ok (.bipush (11), 2) := by decide +kernel
theorem d_LW_undoes_32 : decode Y_LW_undoes.2.1 32 = .ok (.iconst (0), 1) := by decide +kernel
theorem d_LW_undoes_33 : decode Y_LW_undoes.2.1 33 = .ok (.iconst (0), 1) := by decide +kernel
theorem d_LW_undoes_34 : decode Y_LW_undoes.2.1 34 = .ok (.iconst (0), 1) := by decide +kernel
theorem d_LW_undoes_35 : decode Y_LW_undoes.2.1 35 = .ok (.invokestatic 156, 3) := by decide +kernel
theorem d_LW_undoes_38 : decode Y_LW_undoes.2.1 38 = .ok (.invokestatic 219, 3) := by decide +kernel
theorem d_LW_undoes_41 : decode Y_LW_undoes.2.1 41 = .ok (.ifCond .ne (7), 3) := by decide +kernel
theorem d_LW_undoes_44 : decode Y_LW_undoes.2.1 44 = .ok (.iconst (1), 1) := by decide +kernel
theorem d_LW_undoes_45 : decode Y_LW_undoes.2.1 45 = .ok (.goto (4), 3) := by decide +kernel
theorem d_LW_undoes_48 : decode Y_LW_undoes.2.1 48 = .ok (.iconst (0), 1) := by decide +kernel
theorem d_LW_undoes_49 : decode Y_LW_undoes.2.1 49 = .ok (.istore_n 3, 1) := by decide +kernel
theorem d_LW_undoes_50 : decode Y_LW_undoes.2.1 50 = .ok (.iinc 4 (-99), 3) := by decide +kernel
theorem d_LW_undoes_53 : decode Y_LW_undoes.2.1 53 = .ok (.goto (-48), 3) := by decide +kernel
theorem d_LW_undoes_56 : decode Y_LW_undoes.2.1 56 = .ok (.iload_n 3, 1) := by decide +kernel
theorem d_LW_undoes_57 : decode Y_LW_undoes.2.1 57 = .ok (.ireturn, 1) := by decide +kernel
def f_LW_undoes (w : zW) (D : zD) (r0 : Nat) (r1 : Nat) (x2 : Int32) : Option (Int32 × zD) := zjp (zlp (fun (_ : Int32) (_ : Int32) (_ : zD) => none) (fun (j5 : Int32 → Int32 → zD → Option (Int32 × zD)) (x3 : Int32) (x4 : Int32) (D1 : zD) => zjp (fun (x3 : Int32) (D3 : zD) => zchk (x3 = 0 ∨ x3 = 1) (some (x3, D3))) (fun j56 => (if x4 ≤ 0 then j56 x3 D1 else (if x3 = 0 then j56 x3 D1 else zjp (fun (x4 : Int32) (s0 : Int32) (D5 : zD) => zlet (x4 + (-99 : Int32)) (fun v7 => j5 s0 v7 D5)) (fun j49 => zjp (fun (x4 : Int32) (D8 : zD) => j49 x4 (0 : Int32) D8) (fun j48 => zci (f_LW_call w D1 r0 (11 : Int32) (0 : Int32) (0 : Int32) (0 : Int32)) (fun v10 D11 => zci (f_LW_thrown w D11 v10) (fun v13 D14 => (if v13 = 0 then zci (f_LW_call w D14 r1 (11 : Int32) (0 : Int32) (0 : Int32) (0 : Int32)) (fun v15 D16 => zci (f_LW_thrown w D16 v15) (fun v18 D19 => (if v18 = 0 then j49 x4 (1 : Int32) D19 else j48 x4 D19))) else j48 x4 D14))))))))) 6) (fun j5 => j5 (1 : Int32) x2 D)
set_option maxHeartbeats 8000000 in
set_option maxRecDepth 100000 in
theorem c_LW_undoes (z : zT) (D : zD) (r0 : Nat) (r1 : Nat) (x2 : Int32) : zM Y_LW_undoes 11 12 72 (zqY z.2) (f_LW_undoes z.2 D r0 r1 x2) [.ref r0, .ref r1, .int x2] z D := by
  refine zM_of (plainFor_of_name (by decide +kernel)) rfl (Nat.le_of_ble_eq_true rfl) (fun _ _ _ _ h => nomatch h.1) (fun K => ?_)
  obtain ⟨n0, w⟩ := z
  show zGO K Y_LW_undoes 11 12 72 (zqY w) (f_LW_undoes w D r0 r1 x2) 12 72 (n0, w) D 0 [(0, .ref r0), (1, .ref r1), (2, .int x2)] []
  unfold f_LW_undoes
  refine z_jp (fun j5 : Int32 → Int32 → zD → Option (Int32 × zD) => ∀ (x3 : Int32) (x4 : Int32) (m2 : Nat) (D1 : zD), zGO K Y_LW_undoes 11 12 72 (zqY w) (j5 x3 x4 D1) (6 * 2 + 0) (6 * 12 + 0) (m2, w) D1 5 [(0, .ref r0), (1, .ref r1), (3, .int x3), (4, .int x4)] []) (z_lpA (fun (n5 : Nat) (j5 : Int32 → Int32 → zD → Option (Int32 × zD)) => ∀ (x3 : Int32) (x4 : Int32) (m2 : Nat) (D1 : zD), zGO K Y_LW_undoes 11 12 72 (zqY w) (j5 x3 x4 D1) (n5 * 2 + 0) (n5 * 12 + 0) (m2, w) D1 5 [(0, .ref r0), (1, .ref r1), (3, .int x3), (4, .int x4)] []) (fun _ _ _ _ => z_none) (fun n5 j5 h5 x3 x4 m2 D1 => ?_) 6) (fun j5 h5 => ?_)
  · refine z_jp (fun j56 : Int32 → zD → Option (Int32 × zD) => ∀ (x3 : Int32) (m4 : Nat) (D3 : zD), zGO K Y_LW_undoes 11 12 72 (zqY w) (j56 x3 D3) 0 0 (m4, w) D3 56 [(3, .int x3)] []) (fun x3 m4 D3 => ?_) (fun j56 h56 => ?_)
    · refine z_iload_n (pc := 56) d_LW_undoes_56 rfl 0 rfl ?_
      exact z_yretZ (pc := 57) rfl d_LW_undoes_57 rfl
    · refine z_iload (pc := 5) d_LW_undoes_5 3 rfl ?_
      refine z_if_le (pc := 7) (tgt := 56) d_LW_undoes_7 (by decide) ?_ ?_
      · refine z_kc (by omega) (by omega) (z_sub [2] rfl (h56 x3 m2 D1))
      · refine z_iload_n (pc := 10) d_LW_undoes_10 rfl 2 rfl ?_
        refine z_if_eq (pc := 11) (tgt := 56) d_LW_undoes_11 (by decide) ?_ ?_
        · refine z_kc (by omega) (by omega) (z_sub [2] rfl (h56 x3 m2 D1))
        · refine z_jp (fun j49 : Int32 → Int32 → zD → Option (Int32 × zD) => ∀ (x4 : Int32) (s0 : Int32) (m6 : Nat) (D5 : zD), zGO K Y_LW_undoes 11 12 72 (zqY w) (j49 x4 s0 D5) (n5 * 2 + 0) (n5 * 12 + 0) (m6, w) D5 49 [(0, .ref r0), (1, .ref r1), (4, .int x4)] [.int s0]) (fun x4 s0 m6 D5 => ?_) (fun j49 h49 => ?_)
          · refine z_istore_n (pc := 49) d_LW_undoes_49 rfl (by decide) (lv' := [(3, .int s0), (0, .ref r0), (1, .ref r1), (4, .int x4)]) rfl ?_
            refine z_iincL (pc := 50) d_LW_undoes_50 ki_m99 3 rfl (by decide) (fun v7 => z_lvc (lv2 := [(4, .int v7), (3, .int s0), (0, .ref r0), (1, .ref r1)]) rfl ?_)
            refine z_goto (pc := 53) (tgt := 5) d_LW_undoes_53 (by decide) ?_
            refine z_kc (by omega) (by omega) (z_sub [2, 3, 1, 0] rfl (h5 s0 v7 m6 D5))
          · refine z_jp (fun j48 : Int32 → zD → Option (Int32 × zD) => ∀ (x4 : Int32) (m9 : Nat) (D8 : zD), zGO K Y_LW_undoes 11 12 72 (zqY w) (j48 x4 D8) (n5 * 2 + 0) (n5 * 12 + 0) (m9, w) D8 48 [(0, .ref r0), (1, .ref r1), (4, .int x4)] []) (fun x4 m9 D8 => ?_) (fun j48 h48 => ?_)
            · refine z_iconst (pc := 48) d_LW_undoes_48 ki_0 ?_
              refine z_kc (by omega) (by omega) (z_sub [0, 1, 2] rfl (h49 x4 (0 : Int32) m9 D8))
            · refine z_aload_n (pc := 14) d_LW_undoes_14 rfl 0 rfl ?_
              refine z_bipush (pc := 15) d_LW_undoes_15 kb_11 ?_
              refine z_iconst (pc := 17) d_LW_undoes_17 ki_0 ?_
              refine z_iconst (pc := 18) d_LW_undoes_18 ki_0 ?_
              refine z_iconst (pc := 19) d_LW_undoes_19 ki_0 ?_
              refine z_callYA (pc := 20) (kc2 := (n5 * 2 + 1)) (ks2 := (n5 * 12 + 6)) [.ref r0, .int (11 : Int32), .int (0 : Int32), .int (0 : Int32), .int (0 : Int32)] lkS_LW_156 (c_LW_call (m2, w) D1 r0 (11 : Int32) (0 : Int32) (0 : Int32) (0 : Int32)) (by decide) (by omega) (by omega) rfl rfl (Nat.le_of_ble_eq_true rfl) d_LW_undoes_20 (fun v10 D11 m12 => ?_)
              refine z_callSi (pc := 23) [.int v10] lkS_LW_219 (c_LW_thrown (m12, w) D11 v10) (by decide) rfl rfl (Nat.le_of_ble_eq_true rfl) d_LW_undoes_23 (fun v13 D14 => ?_)
              refine z_if_ne (pc := 26) (tgt := 48) d_LW_undoes_26 (by decide) ?_ ?_
              · refine z_aload_n (pc := 29) d_LW_undoes_29 rfl 1 rfl ?_
                refine z_bipush (pc := 30) d_LW_undoes_30 kb_11 ?_
                refine z_iconst (pc := 32) d_LW_undoes_32 ki_0 ?_
                refine z_iconst (pc := 33) d_LW_undoes_33 ki_0 ?_
                refine z_iconst (pc := 34) d_LW_undoes_34 ki_0 ?_
                refine z_callYA (pc := 35) (kc2 := (n5 * 2 + 0)) (ks2 := (n5 * 12 + 0)) [.ref r1, .int (11 : Int32), .int (0 : Int32), .int (0 : Int32), .int (0 : Int32)] lkS_LW_156 (c_LW_call (m12, w) D14 r1 (11 : Int32) (0 : Int32) (0 : Int32) (0 : Int32)) (by decide) (by omega) (by omega) rfl rfl (Nat.le_of_ble_eq_true rfl) d_LW_undoes_35 (fun v15 D16 m17 => ?_)
                refine z_callSi (pc := 38) [.int v15] lkS_LW_219 (c_LW_thrown (m17, w) D16 v15) (by decide) rfl rfl (Nat.le_of_ble_eq_true rfl) d_LW_undoes_38 (fun v18 D19 => ?_)
                refine z_if_ne (pc := 41) (tgt := 48) d_LW_undoes_41 (by decide) ?_ ?_
                · refine z_iconst (pc := 44) d_LW_undoes_44 ki_1 ?_
                  refine z_goto (pc := 45) (tgt := 49) d_LW_undoes_45 (by decide) ?_
                  refine z_kc (by omega) (by omega) (z_sub [0, 1, 3] rfl (h49 x4 (1 : Int32) m17 D19))
                · refine z_kc (by omega) (by omega) (z_sub [0, 1, 3] rfl (h48 x4 m17 D19))
              · refine z_kc (by omega) (by omega) (z_sub [0, 1, 3] rfl (h48 x4 m12 D14))
  · refine z_iconst (pc := 0) d_LW_undoes_0 ki_1 ?_
    refine z_istore_n (pc := 1) d_LW_undoes_1 rfl (by decide) (lv' := [(3, .int (1 : Int32)), (0, .ref r0), (1, .ref r1), (2, .int x2)]) rfl ?_
    refine z_iload_n (pc := 2) d_LW_undoes_2 rfl 3 rfl ?_
    refine z_istore (pc := 3) d_LW_undoes_3 (by decide) (lv' := [(4, .int x2), (3, .int (1 : Int32)), (0, .ref r0), (1, .ref r1), (2, .int x2)]) rfl ?_
    refine z_kc (by omega) (by omega) (z_sub [2, 3, 1, 0] rfl (h5 (1 : Int32) x2 n0 D))
