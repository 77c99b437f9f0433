theorem ki_m99 : Int32.ofInt (-99) = (-99 : Int32) := by decide +kernel
def Y_LW_waits : zY := (⟨"SirenFairLaw", "waits", "(LSirenFair;LSirenFair;I)Z"⟩, method_34_code, 7, some .boolean, [])
theorem d_LW_waits_0 : decode Y_LW_waits.2.1 0 = .ok (.iconst (1), 1) := by decide +kernel
theorem d_LW_waits_1 : decode Y_LW_waits.2.1 1 = .ok (.istore_n 3, 1) := by decide +kernel
theorem d_LW_waits_2 : decode Y_LW_waits.2.1 2 = .ok (.iload_n 2, 1) := by decide +kernel
theorem d_LW_waits_3 : decode Y_LW_waits.2.1 3 = .ok (.istore 4, 2) := by decide +kernel
theorem d_LW_waits_5 : decode Y_LW_waits.2.1 5 = .ok (.iload 4, 2) := by decide +kernel
theorem d_LW_waits_7 : decode Y_LW_waits.2.1 7 = .ok (.ifCond .le (67), 3) := by decide +kernel
theorem d_LW_waits_10 : decode Y_LW_waits.2.1 10 = .ok (.iload_n 3, 1) := by decide +kernel
theorem d_LW_waits_11 : decode Y_LW_waits.2.1 11 = .ok (.ifCond .eq (63), 3) := by decide +kernel
theorem d_LW_waits_14 : decode Y_LW_waits.2.1 14 = .ok (.iload 4, 2) := by decide +kernel
theorem d_LW_waits_16 : decode Y_LW_waits.2.1 16 = .ok (.bipush (99), 2) := by decide +kernel
theorem d_LW_waits_18 : decode Y_LW_waits.2.1 18 = .ok (.if_icmp .le (8), 3) := by decide +kernel
theorem d_LW_waits_21 : decode Y_LW_waits.2.1 21 = .ok (.bipush (99), 2) := by decide +kernel
theorem d_LW_waits_23 : decode Y_LW_waits.2.1 23 = .ok (.goto (5), 3) := by decide +kernel
theorem d_LW_waits_26 : decode Y_LW_waits.2.1 26 = .ok (.iload 4, 2) := by decide +kernel
theorem d_LW_waits_28 : decode Y_LW_waits.2.1 28 = .ok (.istore 5, 2) := by decide +kernel
theorem d_LW_waits_30 : decode Y_LW_waits.2.1 30 = .ok (.aload_n 0, 1) := by decide +kernel
theorem d_LW_waits_31 : decode Y_LW_waits.2.1 31 = .ok (.bipush (9), 2) := by decide +kernel
theorem d_LW_waits_33 : decode Y_LW_waits.2.1 33 = .ok (.iload 5, 2) := by decide +kernel
theorem d_LW_waits_35 : decode Y_LW_waits.2.1 35 = .ok (.iconst (0), 1) := by decide +kernel
theorem d_LW_waits_36 : decode Y_LW_waits.2.1 36 = .ok (.iconst (0), 1) := by decide +kernel
theorem d_LW_waits_37 : decode Y_LW_waits.2.1 37 = .ok (.invokestatic 156, 3) := by decide +kernel
theorem d_LW_waits_40 : decode Y_LW_waits.2.1 40 = .ok (.istore 6, 2) := by decide +kernel
theorem d_LW_waits_42 : decode Y_LW_waits.2.1 42 = .ok (.iload 6, 2) := by decide +kernel
theorem d_LW_waits_44 : decode Y_LW_waits.2.1 44 = .ok (.ifCond .lt (22), 3) := by decide +kernel
theorem d_LW_waits_47 : decode Y_LW_waits.2.1 47 = .ok (.aload_n 1, 1) := by decide +kernel
theorem d_LW_waits_48 : decode Y_LW_waits.2.1 48 = .ok (.bipush (9), 2) := by decide +kernel
theorem d_LW_waits_50 : decode Y_LW_waits.2.1 50 = .ok (.iload 5, 2) := by decide +kernel
theorem d_LW_waits_52 : decode Y_LW_waits.2.1 52 = .ok (.iconst (0), 1) := by decide +kernel
theorem d_LW_waits_53 : decode Y_LW_waits.2.1 53 = .ok (.iconst (0), 1) := by decide +kernel
theorem d_LW_waits_54 : decode Y_LW_waits.2.1 54 = .ok (.invokestatic 156, 3) := by decide +kernel
theorem d_LW_waits_57 : decode Y_LW_waits.2.1 57 = .ok (.iload 6, 2) := by decide +kernel
theorem d_LW_waits_59 : decode Y_LW_waits.2.1 59 = .ok (.if_icmp .ne (7), 3) := by decide +kernel
theorem d_LW_waits_62 : decode Y_LW_waits.2.1 62 = .ok (.iconst (1), 1) := by decide +kernel
theorem d_LW_waits_63 : decode Y_LW_waits.2.1 63 = .ok (.goto (4), 3) := by decide +kernel
theorem d_LW_waits_66 : decode Y_LW_waits.2.1 66 = .ok (.iconst (0), 1) := by decide +kernel
theorem d_LW_waits_67 : decode Y_LW_waits.2.1 67 = .ok (.istore_n 3, 1) := by decide +kernel
theorem d_LW_waits_68 : decode Y_LW_waits.2.1 68 = .ok (.iinc 4 (-99), 3) := by decide +kernel
theorem d_LW_waits_71 : decode Y_LW_waits.2.1 71 = .ok (.goto (-66), 3) := by decide +kernel
theorem d_LW_waits_74 : decode Y_LW_waits.2.1 74 = .ok (.iload_n 3, 1) := by decide +kernel
theorem d_LW_waits_75 : decode Y_LW_waits.2.1 75 = .ok (.ireturn, 1) := by decide +kernel
def f_LW_waits (w : zW) (D : zD) (r0 : Nat) (r1 : Nat) (x2 : Int32) : Option (Int32 × zD) := zjp (zlp (fun (_ : Int32) (_ : Int32) (_ : zD) => none) (fun (j5 : Int32 → Int32 → zD → Option (Int32 × zD)) (x3 : Int32) (x4 : Int32) (D1 : zD) => zjp (fun (x3 : Int32) (D3 : zD) => zchk (x3 = 0 ∨ x3 = 1) (some (x3, D3))) (fun j74 => (if x4 ≤ 0 then j74 x3 D1 else (if x3 = 0 then j74 x3 D1 else zjp (fun (x4 : Int32) (s0 : Int32) (D5 : zD) => zjp (fun (x4 : Int32) (s0 : Int32) (D7 : zD) => zlet (x4 + (-99 : Int32)) (fun v9 => j5 s0 v9 D7)) (fun j67 => zjp (fun (x4 : Int32) (D10 : zD) => j67 x4 (0 : Int32) D10) (fun j66 => zci (f_LW_call w D5 r0 (9 : Int32) s0 (0 : Int32) (0 : Int32)) (fun v12 D13 => (if v12 < 0 then j66 x4 D13 else zci (f_LW_call w D13 r1 (9 : Int32) s0 (0 : Int32) (0 : Int32)) (fun v15 D16 => (if v15 = v12 then j67 x4 (1 : Int32) D16 else j66 x4 D16))))))) (fun j28 => (if x4 ≤ (99 : Int32) then j28 x4 x4 D1 else j28 x4 (99 : Int32) D1)))))) 6) (fun j5 => j5 (1 : Int32) x2 D)
set_option maxHeartbeats 8000000 in
set_option maxRecDepth 100000 in
theorem c_LW_waits (z : zT) (D : zD) (r0 : Nat) (r1 : Nat) (x2 : Int32) : zM Y_LW_waits 11 12 72 (zqY z.2) (f_LW_waits z.2 D r0 r1 x2) [.ref r0, .ref r1, .int x2] z D := by
  refine zM_of (plainFor_of_name (by decide +kernel)) rfl (Nat.le_of_ble_eq_true rfl) (fun _ _ _ _ h => nomatch h.1) (fun K => ?_)
  obtain ⟨n0, w⟩ := z
  show zGO K Y_LW_waits 11 12 72 (zqY w) (f_LW_waits w D r0 r1 x2) 12 72 (n0, w) D 0 [(0, .ref r0), (1, .ref r1), (2, .int x2)] []
  unfold f_LW_waits
  refine z_jp (fun j5 : Int32 → Int32 → zD → Option (Int32 × zD) => ∀ (x3 : Int32) (x4 : Int32) (m2 : Nat) (D1 : zD), zGO K Y_LW_waits 11 12 72 (zqY w) (j5 x3 x4 D1) (6 * 2 + 0) (6 * 12 + 0) (m2, w) D1 5 [(0, .ref r0), (1, .ref r1), (3, .int x3), (4, .int x4)] []) (z_lpA (fun (n5 : Nat) (j5 : Int32 → Int32 → zD → Option (Int32 × zD)) => ∀ (x3 : Int32) (x4 : Int32) (m2 : Nat) (D1 : zD), zGO K Y_LW_waits 11 12 72 (zqY w) (j5 x3 x4 D1) (n5 * 2 + 0) (n5 * 12 + 0) (m2, w) D1 5 [(0, .ref r0), (1, .ref r1), (3, .int x3), (4, .int x4)] []) (fun _ _ _ _ => z_none) (fun n5 j5 h5 x3 x4 m2 D1 => ?_) 6) (fun j5 h5 => ?_)
  · refine z_jp (fun j74 : Int32 → zD → Option (Int32 × zD) => ∀ (x3 : Int32) (m4 : Nat) (D3 : zD), zGO K Y_LW_waits 11 12 72 (zqY w) (j74 x3 D3) 0 0 (m4, w) D3 74 [(3, .int x3)] []) (fun x3 m4 D3 => ?_) (fun j74 h74 => ?_)
    · refine z_iload_n (pc := 74) d_LW_waits_74 rfl 0 rfl ?_
      exact z_yretZ (pc := 75) rfl d_LW_waits_75 rfl
    · refine z_iload (pc := 5) d_LW_waits_5 3 rfl ?_
      refine z_if_le (pc := 7) (tgt := 74) d_LW_waits_7 (by decide) ?_ ?_
      · refine z_kc (by omega) (by omega) (z_sub [2] rfl (h74 x3 m2 D1))
      · refine z_iload_n (pc := 10) d_LW_waits_10 rfl 2 rfl ?_
        refine z_if_eq (pc := 11) (tgt := 74) d_LW_waits_11 (by decide) ?_ ?_
        · refine z_kc (by omega) (by omega) (z_sub [2] rfl (h74 x3 m2 D1))
        · refine z_jp (fun j28 : Int32 → Int32 → zD → Option (Int32 × zD) => ∀ (x4 : Int32) (s0 : Int32) (m6 : Nat) (D5 : zD), zGO K Y_LW_waits 11 12 72 (zqY w) (j28 x4 s0 D5) (n5 * 2 + 2) (n5 * 12 + 12) (m6, w) D5 28 [(0, .ref r0), (1, .ref r1), (4, .int x4)] [.int s0]) (fun x4 s0 m6 D5 => ?_) (fun j28 h28 => ?_)
          · refine z_jp (fun j67 : Int32 → Int32 → zD → Option (Int32 × zD) => ∀ (x4 : Int32) (s0 : Int32) (m8 : Nat) (D7 : zD), zGO K Y_LW_waits 11 12 72 (zqY w) (j67 x4 s0 D7) (n5 * 2 + 0) (n5 * 12 + 0) (m8, w) D7 67 [(0, .ref r0), (1, .ref r1), (4, .int x4)] [.int s0]) (fun x4 s0 m8 D7 => ?_) (fun j67 h67 => ?_)
            · refine z_istore_n (pc := 67) d_LW_waits_67 rfl (by decide) (lv' := [(3, .int s0), (0, .ref r0), (1, .ref r1), (4, .int x4)]) rfl ?_
              refine z_iincL (pc := 68) d_LW_waits_68 ki_m99 3 rfl (by decide) (fun v9 => z_lvc (lv2 := [(4, .int v9), (3, .int s0), (0, .ref r0), (1, .ref r1)]) rfl ?_)
              refine z_goto (pc := 71) (tgt := 5) d_LW_waits_71 (by decide) ?_
              refine z_kc (by omega) (by omega) (z_sub [2, 3, 1, 0] rfl (h5 s0 v9 m8 D7))
            · refine z_jp (fun j66 : Int32 → zD → Option (Int32 × zD) => ∀ (x4 : Int32) (m11 : Nat) (D10 : zD), zGO K Y_LW_waits 11 12 72 (zqY w) (j66 x4 D10) (n5 * 2 + 0) (n5 * 12 + 0) (m11, w) D10 66 [(0, .ref r0), (1, .ref r1), (4, .int x4)] []) (fun x4 m11 D10 => ?_) (fun j66 h66 => ?_)
              · refine z_iconst (pc := 66) d_LW_waits_66 ki_0 ?_
                refine z_kc (by omega) (by omega) (z_sub [0, 1, 2] rfl (h67 x4 (0 : Int32) m11 D10))
              · refine z_istore (pc := 28) d_LW_waits_28 (by decide) (lv' := [(5, .int s0), (0, .ref r0), (1, .ref r1), (4, .int x4)]) rfl ?_
                refine z_aload_n (pc := 30) d_LW_waits_30 rfl 1 rfl ?_
                refine z_bipush (pc := 31) d_LW_waits_31 kb_9 ?_
                refine z_iload (pc := 33) d_LW_waits_33 0 rfl ?_
                refine z_iconst (pc := 35) d_LW_waits_35 ki_0 ?_
                refine z_iconst (pc := 36) d_LW_waits_36 ki_0 ?_
                refine z_callYA (pc := 37) (kc2 := (n5 * 2 + 1)) (ks2 := (n5 * 12 + 6)) [.ref r0, .int (9 : Int32), .int s0, .int (0 : Int32), .int (0 : Int32)] lkS_LW_156 (c_LW_call (m6, w) D5 r0 (9 : Int32) s0 (0 : Int32) (0 : Int32)) (by decide) (by omega) (by omega) rfl rfl (Nat.le_of_ble_eq_true rfl) d_LW_waits_37 (fun v12 D13 m14 => ?_)
                refine z_istore (pc := 40) d_LW_waits_40 (by decide) (lv' := [(6, .int v12), (5, .int s0), (0, .ref r0), (1, .ref r1), (4, .int x4)]) rfl ?_
                refine z_iload (pc := 42) d_LW_waits_42 0 rfl ?_
                refine z_if_lt (pc := 44) (tgt := 66) d_LW_waits_44 (by decide) ?_ ?_
                · refine z_kc (by omega) (by omega) (z_sub [2, 3, 4] rfl (h66 x4 m14 D13))
                · refine z_aload_n (pc := 47) d_LW_waits_47 rfl 3 rfl ?_
                  refine z_bipush (pc := 48) d_LW_waits_48 kb_9 ?_
                  refine z_iload (pc := 50) d_LW_waits_50 1 rfl ?_
                  refine z_iconst (pc := 52) d_LW_waits_52 ki_0 ?_
                  refine z_iconst (pc := 53) d_LW_waits_53 ki_0 ?_
                  refine z_callYA (pc := 54) (kc2 := (n5 * 2 + 0)) (ks2 := (n5 * 12 + 0)) [.ref r1, .int (9 : Int32), .int s0, .int (0 : Int32), .int (0 : Int32)] lkS_LW_156 (c_LW_call (m14, w) D13 r1 (9 : Int32) s0 (0 : Int32) (0 : Int32)) (by decide) (by omega) (by omega) rfl rfl (Nat.le_of_ble_eq_true rfl) d_LW_waits_54 (fun v15 D16 m17 => ?_)
                  refine z_iload (pc := 57) d_LW_waits_57 0 rfl ?_
                  refine z_icmp_ne (pc := 59) (tgt := 66) d_LW_waits_59 (by decide) ?_ ?_
                  · refine z_iconst (pc := 62) d_LW_waits_62 ki_1 ?_
                    refine z_goto (pc := 63) (tgt := 67) d_LW_waits_63 (by decide) ?_
                    refine z_kc (by omega) (by omega) (z_sub [2, 3, 4] rfl (h67 x4 (1 : Int32) m17 D16))
                  · refine z_kc (by omega) (by omega) (z_sub [2, 3, 4] rfl (h66 x4 m17 D16))
          · refine z_iload (pc := 14) d_LW_waits_14 3 rfl ?_
            refine z_bipush (pc := 16) d_LW_waits_16 kb_99 ?_
            refine z_icmp_le (pc := 18) (tgt := 26) d_LW_waits_18 (by decide) ?_ ?_
            · refine z_iload (pc := 26) d_LW_waits_26 3 rfl ?_
              refine z_kc (by omega) (by omega) (z_sub [0, 1, 3] rfl (h28 x4 x4 m2 D1))
            · refine z_bipush (pc := 21) d_LW_waits_21 kb_99 ?_
              refine z_goto (pc := 23) (tgt := 28) d_LW_waits_23 (by decide) ?_
              refine z_kc (by omega) (by omega) (z_sub [0, 1, 3] rfl (h28 x4 (99 : Int32) m2 D1))
  · refine z_iconst (pc := 0) d_LW_waits_0 ki_1 ?_
    refine z_istore_n (pc := 1) d_LW_waits_1 rfl (by decide) (lv' := [(3, .int (1 : Int32)), (0, .ref r0), (1, .ref r1), (2, .int x2)]) rfl ?_
    refine z_iload_n (pc := 2) d_LW_waits_2 rfl 3 rfl ?_
    refine z_istore (pc := 3) d_LW_waits_3 (by decide) (lv' := [(4, .int x2), (3, .int (1 : Int32)), (0, .ref r0), (1, .ref r1), (2, .int x2)]) rfl ?_
    refine z_kc (by omega) (by omega) (z_sub [2, 3, 1, 0] rfl (h5 (1 : Int32) x2 n0 D))
