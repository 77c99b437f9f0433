def Y_SF_init : zY := (⟨"SirenFair", "<init>", "()V"⟩, prog_1_method_1_code, 2, none, [])
theorem w_cl_SF_16 : Cond.classLink "SirenFair" 16 "SirenFair$Field" ∈ zWd := zin 70 (by decide +kernel) rfl
theorem w_inst_Field : Cond.instantiable "SirenFair$Field" 9 ∈ zWd := zin 71 (by decide +kernel) rfl
theorem w_c_Field_init : Cond.code Y_Field_init.1 Y_Field_init.2.1 Y_Field_init.2.2.1 Y_Field_init.2.2.2.1 ∈ zWd := zin 74 (by decide +kernel) rfl
theorem lk_Field_init : zlk Y_Field_init 0 := ⟨w_c_Field_init, w_ini_Field, by decide +kernel, by decide +kernel, by decide⟩
theorem w_ml_SF_18 : Cond.methodLinkNest "SirenFair" 18 Y_Field_init.1 "SirenFair" ∈ zWd := zin 72 (by decide +kernel) rfl
theorem w_im_Field_init : Cond.instanceMethod Y_Field_init.1 ∈ zWd := zin 73 (by decide +kernel) rfl
theorem lkI_SF_18 : zlkIN "SirenFair" 18 Y_Field_init "SirenFair" 0 := ⟨lk_Field_init, w_ml_SF_18, w_im_Field_init, rfl, rfl⟩
theorem w_over : Cond.arrayOver (.object "SirenFair$Field") ∈ zWd := zin 310 (by decide +kernel) rfl
theorem w_ml_SF_1 : Cond.methodLink "SirenFair" 1 Lib.objectInit ∈ zWd := zin 39 (by decide +kernel) rfl
theorem w_cl_SF_7 : Cond.classLink "SirenFair" 7 "SirenFair$FairText" ∈ zWd := zin 42 (by decide +kernel) rfl
theorem w_inst_FairText : Cond.instantiable "SirenFair$FairText" 5 ∈ zWd := zin 43 (by decide +kernel) rfl
theorem w_c_FairText_init : Cond.code Y_FairText_init.1 Y_FairText_init.2.1 Y_FairText_init.2.2.1 Y_FairText_init.2.2.2.1 ∈ zWd := zin 46 (by decide +kernel) rfl
theorem lk_FairText_init : zlk Y_FairText_init 0 := ⟨w_c_FairText_init, w_ini_FairText, by decide +kernel, by decide +kernel, by decide⟩
theorem w_ml_SF_9 : Cond.methodLinkNest "SirenFair" 9 Y_FairText_init.1 "SirenFair" ∈ zWd := zin 44 (by decide +kernel) rfl
theorem w_im_FairText_init : Cond.instanceMethod Y_FairText_init.1 ∈ zWd := zin 45 (by decide +kernel) rfl
theorem lkI_SF_9 : zlkIN "SirenFair" 9 Y_FairText_init "SirenFair" 0 := ⟨lk_FairText_init, w_ml_SF_9, w_im_FairText_init, rfl, rfl⟩
theorem d_SF_init_0 : decode Y_SF_init.2.1 0 = .ok (.aload_n 0, 1) := by decide +kernel
theorem d_SF_init_1 : decode Y_SF_init.2.1 1 = .ok (.invokespecial 1, 3) := by decide +kernel
theorem d_SF_init_4 : decode Y_SF_init.2.1 4 = .ok (.aload_n 0, 1) := by decide +kernel
theorem d_SF_init_5 : decode Y_SF_init.2.1 5 = .ok (.new 7, 3) := by decide +kernel
theorem d_SF_init_8 : decode Y_SF_init.2.1 8 = .ok (.dup, 1) := by decide +kernel
theorem d_SF_init_9 : decode Y_SF_init.2.1 9 = .ok (.invokespecial 9, 3) := by decide +kernel
theorem d_SF_init_12 : decode Y_SF_init.2.1 12 = .ok (.putfield 10, 3) := by decide +kernel
theorem d_SF_init_15 : decode Y_SF_init.2.1 15 = .ok (.aload_n 0, 1) := by decide +kernel
theorem d_SF_init_16 : decode Y_SF_init.2.1 16 = .ok (.new 16, 3) := by decide +kernel
theorem d_SF_init_19 : decode Y_SF_init.2.1 19 = .ok (.dup, 1) := by decide +kernel
theorem d_SF_init_20 : decode Y_SF_init.2.1 20 = .ok (.invokespecial 18, 3) := by decide +kernel
theorem d_SF_init_23 : decode Y_SF_init.2.1 23 = .ok (.putfield 19, 3) := by decide +kernel
theorem d_SF_init_26 : decode Y_SF_init.2.1 26 = .ok (.aload_n 0, 1) := by decide +kernel
theorem d_SF_init_27 : decode Y_SF_init.2.1 27 = .ok (.new 16, 3) := by decide +kernel
theorem d_SF_init_30 : decode Y_SF_init.2.1 30 = .ok (.dup, 1) := by decide +kernel
theorem d_SF_init_31 : decode Y_SF_init.2.1 31 = .ok (.invokespecial 18, 3) := by decide +kernel
theorem d_SF_init_34 : decode Y_SF_init.2.1 34 = .ok (.putfield 23, 3) := by decide +kernel
theorem d_SF_init_37 : decode Y_SF_init.2.1 37 = .ok (.aload_n 0, 1) := by decide +kernel
theorem d_SF_init_38 : decode Y_SF_init.2.1 38 = .ok (.new 16, 3) := by decide +kernel
theorem d_SF_init_41 : decode Y_SF_init.2.1 41 = .ok (.dup, 1) := by decide +kernel
theorem d_SF_init_42 : decode Y_SF_init.2.1 42 = .ok (.invokespecial 18, 3) := by decide +kernel
theorem d_SF_init_45 : decode Y_SF_init.2.1 45 = .ok (.putfield 26, 3) := by decide +kernel
theorem d_SF_init_48 : decode Y_SF_init.2.1 48 = .ok (.aload_n 0, 1) := by decide +kernel
theorem d_SF_init_49 : decode Y_SF_init.2.1 49 = .ok (.bipush (14), 2) := by decide +kernel
theorem d_SF_init_51 : decode Y_SF_init.2.1 51 = .ok (.anewarray 16, 3) := by decide +kernel
theorem d_SF_init_54 : decode Y_SF_init.2.1 54 = .ok (.putfield 29, 3) := by decide +kernel
theorem d_SF_init_57 : decode Y_SF_init.2.1 57 = .ok (.iconst (0), 1) := by decide +kernel
theorem d_SF_init_58 : decode Y_SF_init.2.1 58 = .ok (.istore_n 1, 1) := by decide +kernel
theorem d_SF_init_59 : decode Y_SF_init.2.1 59 = .ok (.iload_n 1, 1) := by decide +kernel
theorem d_SF_init_60 : decode Y_SF_init.2.1 60 = .ok (.bipush (14), 2) := by decide +kernel
theorem d_SF_init_62 : decode Y_SF_init.2.1 62 = .ok (.if_icmp .ge (22), 3) := by decide +kernel
theorem d_SF_init_65 : decode Y_SF_init.2.1 65 = .ok (.aload_n 0, 1) := by decide +kernel
theorem d_SF_init_66 : decode Y_SF_init.2.1 66 = .ok (.getfield 29, 3) := by decide +kernel
theorem d_SF_init_69 : decode Y_SF_init.2.1 69 = .ok (.iload_n 1, 1) := by decide +kernel
theorem d_SF_init_70 : decode Y_SF_init.2.1 70 = .ok (.new 16, 3) := by decide +kernel
theorem d_SF_init_73 : decode Y_SF_init.2.1 73 = .ok (.dup, 1) := by decide +kernel
theorem d_SF_init_74 : decode Y_SF_init.2.1 74 = .ok (.invokespecial 18, 3) := by decide +kernel
theorem d_SF_init_77 : decode Y_SF_init.2.1 77 = .ok (.aastore, 1) := by decide +kernel
theorem d_SF_init_78 : decode Y_SF_init.2.1 78 = .ok (.iinc 1 (1), 3) := by decide +kernel
theorem d_SF_init_81 : decode Y_SF_init.2.1 81 = .ok (.goto (-22), 3) := by decide +kernel
theorem d_SF_init_84 : decode Y_SF_init.2.1 84 = .ok (.aload_n 0, 1) := by decide +kernel
theorem d_SF_init_85 : decode Y_SF_init.2.1 85 = .ok (.iconst (2), 1) := by decide +kernel
theorem d_SF_init_86 : decode Y_SF_init.2.1 86 = .ok (.anewarray 16, 3) := by decide +kernel
theorem d_SF_init_89 : decode Y_SF_init.2.1 89 = .ok (.putfield 33, 3) := by decide +kernel
theorem d_SF_init_92 : decode Y_SF_init.2.1 92 = .ok (.iconst (0), 1) := by decide +kernel
theorem d_SF_init_93 : decode Y_SF_init.2.1 93 = .ok (.istore_n 1, 1) := by decide +kernel
theorem d_SF_init_94 : decode Y_SF_init.2.1 94 = .ok (.iload_n 1, 1) := by decide +kernel
theorem d_SF_init_95 : decode Y_SF_init.2.1 95 = .ok (.iconst (2), 1) := by decide +kernel
theorem d_SF_init_96 : decode Y_SF_init.2.1 96 = .ok (.if_icmp .ge (22), 3) := by decide +kernel
theorem d_SF_init_99 : decode Y_SF_init.2.1 99 = .ok (.aload_n 0, 1) := by decide +kernel
theorem d_SF_init_100 : decode Y_SF_init.2.1 100 = .ok (.getfield 33, 3) := by decide +kernel
theorem d_SF_init_103 : decode Y_SF_init.2.1 103 = .ok (.iload_n 1, 1) := by decide +kernel
theorem d_SF_init_104 : decode Y_SF_init.2.1 104 = .ok (.new 16, 3) := by decide +kernel
theorem d_SF_init_107 : decode Y_SF_init.2.1 107 = .ok (.dup, 1) := by decide +kernel
theorem d_SF_init_108 : decode Y_SF_init.2.1 108 = .ok (.invokespecial 18, 3) := by decide +kernel
theorem d_SF_init_111 : decode Y_SF_init.2.1 111 = .ok (.aastore, 1) := by decide +kernel
theorem d_SF_init_112 : decode Y_SF_init.2.1 112 = .ok (.iinc 1 (1), 3) := by decide +kernel
theorem d_SF_init_115 : decode Y_SF_init.2.1 115 = .ok (.goto (-21), 3) := by decide +kernel
theorem d_SF_init_118 : decode Y_SF_init.2.1 118 = .ok (.aload_n 0, 1) := by decide +kernel
theorem d_SF_init_119 : decode Y_SF_init.2.1 119 = .ok (.iconst (2), 1) := by decide +kernel
theorem d_SF_init_120 : decode Y_SF_init.2.1 120 = .ok (.newarray .boolean, 2) := by decide +kernel
theorem d_SF_init_122 : decode Y_SF_init.2.1 122 = .ok (.putfield 36, 3) := by decide +kernel
theorem d_SF_init_125 : decode Y_SF_init.2.1 125 = .ok (.return_, 1) := by decide +kernel
def f_SF_init (z : zT) (D : zD) (a : Nat) : Option (zT × zD) := zjp (zlp (fun (_ : Int32) (_ : zT) (_ : zD) => none) (fun (j59 : Int32 → zT → zD → Option (zT × zD)) (x1 : Int32) (z2 : zT) (D1 : zD) => (if (14 : Int32) ≤ x1 then zjp (zlp (fun (_ : Int32) (_ : zT) (_ : zD) => none) (fun (j94 : Int32 → zT → zD → Option (zT × zD)) (x1 : Int32) (z4 : zT) (D3 : zD) => (if (2 : Int32) ≤ x1 then znew z4 D3 (.inl (2, 2)) (fun q5 z6 D7 => zputR z6 0 8 a q5 (fun z8 => some (z8, D7))) else zref z4.2 0 7 a (fun p9 => znew z4 D3 (.inr (.inr (3, [some none, some none, some none, some none, some none, none, none, none, none]))) (fun q10 z11 D12 => zcc (f_Field_init z11 D12 q10 ) (fun z13 D14 => zast4 z13 3 p9 x1 q10 (fun z15 => zlet (x1 + (1 : Int32)) (fun v16 => j94 v16 z15 D14))))))) 3) (fun j94 => znew z2 D1 (.inr (.inl (2, fun _ => none))) (fun q17 z18 D19 => zputR z18 0 7 a q17 (fun z20 => j94 (0 : Int32) z20 D19))) else zref z2.2 0 4 a (fun p21 => znew z2 D1 (.inr (.inr (3, [some none, some none, some none, some none, some none, none, none, none, none]))) (fun q22 z23 D24 => zcc (f_Field_init z23 D24 q22 ) (fun z25 D26 => zast4 z25 3 p21 x1 q22 (fun z27 => zlet (x1 + (1 : Int32)) (fun v28 => j59 v28 z27 D26))))))) 15) (fun j59 => znew z D (.inr (.inr (2, [some none, none, none, none, some none]))) (fun q29 z30 D31 => zcc (f_FairText_init z30 D31 q29 ) (fun z32 D33 => zputR z32 0 0 a q29 (fun z34 => znew z34 D33 (.inr (.inr (3, [some none, some none, some none, some none, some none, none, none, none, none]))) (fun q35 z36 D37 => zcc (f_Field_init z36 D37 q35 ) (fun z38 D39 => zputR z38 0 1 a q35 (fun z40 => znew z40 D39 (.inr (.inr (3, [some none, some none, some none, some none, some none, none, none, none, none]))) (fun q41 z42 D43 => zcc (f_Field_init z42 D43 q41 ) (fun z44 D45 => zputR z44 0 2 a q41 (fun z46 => znew z46 D45 (.inr (.inr (3, [some none, some none, some none, some none, some none, none, none, none, none]))) (fun q47 z48 D49 => zcc (f_Field_init z48 D49 q47 ) (fun z50 D51 => zputR z50 0 3 a q47 (fun z52 => znew z52 D51 (.inr (.inl (14, fun _ => none))) (fun q53 z54 D55 => zputR z54 0 4 a q53 (fun z56 => j59 (0 : Int32) z56 D55)))))))))))))))
set_option maxHeartbeats 4000000 in
set_option maxRecDepth 100000 in
theorem c_SF_init (z : zT) (D : zD) (a : Nat) : zM Y_SF_init 4 749 16887 zqC (f_SF_init z D a) [.ref a] z D := by
  refine zM_of (plainFor_of_name (by decide +kernel)) rfl (Nat.le_of_ble_eq_true rfl) (fun _ _ _ _ h => nomatch h.1) (fun K => ?_)
  unfold f_SF_init
  refine z_jp (fun j59 : Int32 → zT → zD → Option (zT × zD) => ∀ (x1 : Int32) (z2 : zT) (D1 : zD), zGO K Y_SF_init 4 749 16887 zqC (j59 x1 z2 D1) 596 10066 z2 D1 59 [(0, .ref a), (1, .int x1)] []) (z_lpA (fun (n59 : Nat) (j59 : Int32 → zT → zD → Option (zT × zD)) => ∀ (x1 : Int32) (z2 : zT) (D1 : zD), zGO K Y_SF_init 4 749 16887 zqC (j59 x1 z2 D1) (n59 * 33 + 101) (n59 * 559 + 1681) z2 D1 59 [(0, .ref a), (1, .int x1)] []) (fun _ _ _ => z_none) (fun n59 j59 h59 x1 z2 D1 => ?_) 15) (fun j59 h59 => ?_)
  · refine z_iload_n (pc := 59) d_SF_init_59 rfl 1 rfl ?_
    refine z_bipush (pc := 60) d_SF_init_60 kb_14 ?_
    refine z_icmp_ge (pc := 62) (tgt := 84) d_SF_init_62 (by decide) ?_ ?_
    · refine z_kc (kc' := 101) (ks' := 1681) (by omega) (by omega) ?_
      refine z_jp (fun j94 : Int32 → zT → zD → Option (zT × zD) => ∀ (x1 : Int32) (z4 : zT) (D3 : zD), zGO K Y_SF_init 4 749 16887 zqC (j94 x1 z4 D3) 100 1679 z4 D3 94 [(0, .ref a), (1, .int x1)] []) (z_lpA (fun (n94 : Nat) (j94 : Int32 → zT → zD → Option (zT × zD)) => ∀ (x1 : Int32) (z4 : zT) (D3 : zD), zGO K Y_SF_init 4 749 16887 zqC (j94 x1 z4 D3) (n94 * 33 + 1) (n94 * 559 + 2) z4 D3 94 [(0, .ref a), (1, .int x1)] []) (fun _ _ _ => z_none) (fun n94 j94 h94 x1 z4 D3 => ?_) 3) (fun j94 h94 => ?_)
      · refine z_iload_n (pc := 94) d_SF_init_94 rfl 1 rfl ?_
        refine z_iconst (pc := 95) d_SF_init_95 ki_2 ?_
        refine z_icmp_ge (pc := 96) (tgt := 118) d_SF_init_96 (by decide) ?_ ?_
        · refine z_kc (kc' := 1) (ks' := 2) (by omega) (by omega) ?_
          refine z_aload_n (pc := 118) d_SF_init_118 rfl 0 rfl ?_
          refine z_iconst (pc := 119) d_SF_init_119 ki_2 ?_
          refine z_newB (pc := 120) (kc2 := 0) (ks2 := 0) w_ac_boolean (by decide) (by decide) (Nat.le_of_ble_eq_true rfl) (by decide) (by decide) d_SF_init_120 (fun q5 z6 D7 => ?_)
          refine z_putR (pc := 122) fl_SF_36 rfl (fun _ _ _ h => by cases h; rfl) (Or.inr ⟨_, rfl⟩) d_SF_init_122 (fun z8 => ?_)
          exact z_cret (pc := 125) d_SF_init_125 rfl
        · refine z_aload_n (pc := 99) d_SF_init_99 rfl 0 rfl ?_
          refine z_getR (pc := 100) fl_SF_33 d_SF_init_100 (fun p9 => ?_)
          refine z_iload_n (pc := 103) d_SF_init_103 rfl 1 rfl ?_
          refine z_new (pc := 104) (kc2 := (n94 * 33 + 33)) (ks2 := (n94 * 559 + 552)) zc_Field w_cl_SF_16 w_inst_Field w_ini_Field (z_defs (by decide +kernel)) (by omega) (by omega) d_SF_init_104 (fun q10 z11 D12 => ?_)
          refine z_dup (pc := 107) d_SF_init_107 rfl ?_
          refine z_callINc (pc := 108) (kc2 := (n94 * 33 + 1)) (ks2 := (n94 * 559 + 2)) [] lkI_SF_18 (c_Field_init z11 D12 q10 ) (by decide) (by omega) (by omega) rfl rfl (Nat.le_of_ble_eq_true rfl) d_SF_init_108 (fun z13 D14 => ?_)
          refine z_aastore (pc := 111) d_SF_init_111 ⟨_, _, rfl⟩ (fun z15 => ?_)
          refine z_iincL (pc := 112) d_SF_init_112 ki_1 1 rfl (by decide) (fun v16 => z_lvc (lv2 := [(1, .int v16), (0, .ref a)]) rfl ?_)
          refine z_goto (pc := 115) (tgt := 94) d_SF_init_115 (by decide) ?_
          refine z_kc (by omega) (by omega) (z_sub [1, 0] rfl (h94 v16 z15 D14))
      · refine z_aload_n (pc := 84) d_SF_init_84 rfl 0 rfl ?_
        refine z_iconst (pc := 85) d_SF_init_85 ki_2 ?_
        refine z_anew (pc := 86) (kc2 := 100) (ks2 := 1679) w_cl_SF_16 w_over (by decide) (by decide) (Nat.le_of_ble_eq_true rfl) (by decide) (by decide) d_SF_init_86 (fun q17 z18 D19 => ?_)
        refine z_putR (pc := 89) fl_SF_33 rfl (fun _ _ _ h => by cases h; rfl) (Or.inr ⟨_, rfl⟩) d_SF_init_89 (fun z20 => ?_)
        refine z_iconst (pc := 92) d_SF_init_92 ki_0 ?_
        refine z_istore_n (pc := 93) d_SF_init_93 rfl (by decide) (lv' := [(1, .int (0 : Int32)), (0, .ref a)]) rfl ?_
        refine z_kc (by omega) (by omega) (z_sub [1, 0] rfl (h94 (0 : Int32) z20 D19))
    · refine z_aload_n (pc := 65) d_SF_init_65 rfl 0 rfl ?_
      refine z_getR (pc := 66) fl_SF_29 d_SF_init_66 (fun p21 => ?_)
      refine z_iload_n (pc := 69) d_SF_init_69 rfl 1 rfl ?_
      refine z_new (pc := 70) (kc2 := (n59 * 33 + 133)) (ks2 := (n59 * 559 + 2231)) zc_Field w_cl_SF_16 w_inst_Field w_ini_Field (z_defs (by decide +kernel)) (by omega) (by omega) d_SF_init_70 (fun q22 z23 D24 => ?_)
      refine z_dup (pc := 73) d_SF_init_73 rfl ?_
      refine z_callINc (pc := 74) (kc2 := (n59 * 33 + 101)) (ks2 := (n59 * 559 + 1681)) [] lkI_SF_18 (c_Field_init z23 D24 q22 ) (by decide) (by omega) (by omega) rfl rfl (Nat.le_of_ble_eq_true rfl) d_SF_init_74 (fun z25 D26 => ?_)
      refine z_aastore (pc := 77) d_SF_init_77 ⟨_, _, rfl⟩ (fun z27 => ?_)
      refine z_iincL (pc := 78) d_SF_init_78 ki_1 1 rfl (by decide) (fun v28 => z_lvc (lv2 := [(1, .int v28), (0, .ref a)]) rfl ?_)
      refine z_goto (pc := 81) (tgt := 59) d_SF_init_81 (by decide) ?_
      refine z_kc (by omega) (by omega) (z_sub [1, 0] rfl (h59 v28 z27 D26))
  · refine z_aload_n (pc := 0) d_SF_init_0 rfl 0 rfl ?_
    refine z_objInit (pc := 1) w_ml_SF_1 w_oi1 w_oi2 (by decide) (Nat.le_of_ble_eq_true rfl) d_SF_init_1 ?_
    refine z_aload_n (pc := 4) d_SF_init_4 rfl 0 rfl ?_
    refine z_new (pc := 5) (kc2 := 748) (ks2 := 16882) zc_FairText w_cl_SF_7 w_inst_FairText w_ini_FairText (z_defs (by decide +kernel)) (by decide) (by decide) d_SF_init_5 (fun q29 z30 D31 => ?_)
    refine z_dup (pc := 8) d_SF_init_8 rfl ?_
    refine z_callINc (pc := 9) (kc2 := 746) (ks2 := 16757) [] lkI_SF_9 (c_FairText_init z30 D31 q29 ) (by decide) (by decide) (by decide) rfl rfl (Nat.le_of_ble_eq_true rfl) d_SF_init_9 (fun z32 D33 => ?_)
    refine z_putR (pc := 12) fl_SF_10 rfl (fun _ _ _ h => by cases h; rfl) (Or.inl ⟨_, rfl⟩) d_SF_init_12 (fun z34 => ?_)
    refine z_aload_n (pc := 15) d_SF_init_15 rfl 0 rfl ?_
    refine z_new (pc := 16) (kc2 := 745) (ks2 := 16748) zc_Field w_cl_SF_16 w_inst_Field w_ini_Field (z_defs (by decide +kernel)) (by decide) (by decide) d_SF_init_16 (fun q35 z36 D37 => ?_)
    refine z_dup (pc := 19) d_SF_init_19 rfl ?_
    refine z_callINc (pc := 20) (kc2 := 713) (ks2 := 16198) [] lkI_SF_18 (c_Field_init z36 D37 q35 ) (by decide) (by decide) (by decide) rfl rfl (Nat.le_of_ble_eq_true rfl) d_SF_init_20 (fun z38 D39 => ?_)
    refine z_putR (pc := 23) fl_SF_19 rfl (fun _ _ _ h => by cases h; rfl) (Or.inl ⟨_, rfl⟩) d_SF_init_23 (fun z40 => ?_)
    refine z_aload_n (pc := 26) d_SF_init_26 rfl 0 rfl ?_
    refine z_new (pc := 27) (kc2 := 712) (ks2 := 16189) zc_Field w_cl_SF_16 w_inst_Field w_ini_Field (z_defs (by decide +kernel)) (by decide) (by decide) d_SF_init_27 (fun q41 z42 D43 => ?_)
    refine z_dup (pc := 30) d_SF_init_30 rfl ?_
    refine z_callINc (pc := 31) (kc2 := 680) (ks2 := 15639) [] lkI_SF_18 (c_Field_init z42 D43 q41 ) (by decide) (by decide) (by decide) rfl rfl (Nat.le_of_ble_eq_true rfl) d_SF_init_31 (fun z44 D45 => ?_)
    refine z_putR (pc := 34) fl_SF_23 rfl (fun _ _ _ h => by cases h; rfl) (Or.inl ⟨_, rfl⟩) d_SF_init_34 (fun z46 => ?_)
    refine z_aload_n (pc := 37) d_SF_init_37 rfl 0 rfl ?_
    refine z_new (pc := 38) (kc2 := 679) (ks2 := 15630) zc_Field w_cl_SF_16 w_inst_Field w_ini_Field (z_defs (by decide +kernel)) (by decide) (by decide) d_SF_init_38 (fun q47 z48 D49 => ?_)
    refine z_dup (pc := 41) d_SF_init_41 rfl ?_
    refine z_callINc (pc := 42) (kc2 := 647) (ks2 := 15080) [] lkI_SF_18 (c_Field_init z48 D49 q47 ) (by decide) (by decide) (by decide) rfl rfl (Nat.le_of_ble_eq_true rfl) d_SF_init_42 (fun z50 D51 => ?_)
    refine z_putR (pc := 45) fl_SF_26 rfl (fun _ _ _ h => by cases h; rfl) (Or.inl ⟨_, rfl⟩) d_SF_init_45 (fun z52 => ?_)
    refine z_aload_n (pc := 48) d_SF_init_48 rfl 0 rfl ?_
    refine z_bipush (pc := 49) d_SF_init_49 kb_14 ?_
    refine z_anew (pc := 51) (kc2 := 646) (ks2 := 15066) w_cl_SF_16 w_over (by decide) (by decide) (Nat.le_of_ble_eq_true rfl) (by decide) (by decide) d_SF_init_51 (fun q53 z54 D55 => ?_)
    refine z_putR (pc := 54) fl_SF_29 rfl (fun _ _ _ h => by cases h; rfl) (Or.inr ⟨_, rfl⟩) d_SF_init_54 (fun z56 => ?_)
    refine z_iconst (pc := 57) d_SF_init_57 ki_0 ?_
    refine z_istore_n (pc := 58) d_SF_init_58 rfl (by decide) (lv' := [(1, .int (0 : Int32)), (0, .ref a)]) rfl ?_
    refine z_kc (by omega) (by omega) (z_sub [1, 0] rfl (h59 (0 : Int32) z56 D55))
