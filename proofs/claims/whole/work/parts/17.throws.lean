theorem ks_255 : (Int16.ofInt (255)).toInt32 = (255 : Int32) := by decide +kernel
def Y_SF_append : zY := (⟨"SirenFair", "append", "(I)I"⟩, prog_1_method_2_code, 2, some .int, [])
theorem w_ml_SF_40 : Cond.methodLink "SirenFair" 40 Y_SF_isWithin.1 ∈ zWd := zin 544 (by decide +kernel) rfl
theorem lkS_SF_40 : zlkS "SirenFair" 40 Y_SF_isWithin 3 := ⟨lk_SF_isWithin, w_ml_SF_40, w_st_SF_isWithin⟩
theorem w_c_FairText_add : Cond.code Y_FairText_add.1 Y_FairText_add.2.1 Y_FairText_add.2.2.1 Y_FairText_add.2.2.2.1 ∈ zWd := zin 634 (by decide +kernel) rfl
theorem lk_FairText_add : zlk Y_FairText_add 1 := ⟨w_c_FairText_add, w_ini_FairText, by decide +kernel, by decide +kernel, by decide⟩
theorem w_ml_SF_60 : Cond.methodLink "SirenFair" 60 Y_FairText_add.1 ∈ zWd := zin 631 (by decide +kernel) rfl
theorem w_im_FairText_add : Cond.instanceMethod Y_FairText_add.1 ∈ zWd := zin 632 (by decide +kernel) rfl
theorem w_sel_FairText_add : Cond.selects "SirenFair$FairText" Y_FairText_add.1 Y_FairText_add.1 ∈ zWd := zin 633 (by decide +kernel) rfl
theorem lkV_SF_60 : zlkV "SirenFair" 60 Y_FairText_add 1 := ⟨lk_FairText_add, w_ml_SF_60, w_im_FairText_add, w_sel_FairText_add⟩
theorem tha_SF_59 : zthA "SirenFair" "java/lang/IllegalStateException" 59 ["java/lang/RuntimeException", "java/lang/Exception"] := ⟨by decide +kernel, by decide +kernel, by decide +kernel, by decide +kernel⟩
theorem w_cl_SF_55 : Cond.classLink "SirenFair" 55 "java/lang/IllegalStateException" ∈ zWd := zin 615 (by decide +kernel) rfl
theorem w_ini_IllegalStateException : Cond.initialized "java/lang/IllegalStateException" ∈ zWd := zin 40 (by decide +kernel) rfl
theorem th_SF_55_57_59 : zthr "SirenFair" "java/lang/IllegalStateException" "the text is full" 55 57 59 ["java/lang/RuntimeException", "java/lang/Exception"] := ⟨tha_SF_59, w_cl_SF_55, w_ini_IllegalStateException, List.mem_of_getElem? (i := 624) (by decide +kernel)⟩
theorem tha_SF_48 : zthA "SirenFair" "java/lang/IllegalArgumentException" 48 ["java/lang/RuntimeException", "java/lang/Exception"] := ⟨by decide +kernel, by decide +kernel, by decide +kernel, by decide +kernel⟩
theorem w_cl_SF_44 : Cond.classLink "SirenFair" 44 "java/lang/IllegalArgumentException" ∈ zWd := zin 547 (by decide +kernel) rfl
theorem w_ini_IllegalArgumentException : Cond.initialized "java/lang/IllegalArgumentException" ∈ zWd := zin 39 (by decide +kernel) rfl
theorem th_SF_44_46_48 : zthr "SirenFair" "java/lang/IllegalArgumentException" "c is not 0 to 255" 44 46 48 ["java/lang/RuntimeException", "java/lang/Exception"] := ⟨tha_SF_48, w_cl_SF_44, w_ini_IllegalArgumentException, List.mem_of_getElem? (i := 588) (by decide +kernel)⟩
def Y_SF_load : zY := (⟨"SirenFair", "load", "()I"⟩, prog_1_method_5_code, 3, some .int, [])
theorem w_fl_SF_23 : Cond.fieldLink "SirenFair" 23 "SirenFair" "blank" "LSirenFair$Field;" ∈ zWd := zin 324 (by decide +kernel) rfl
theorem fl_SF_23 : zfl "SirenFair" 23 0 2 (.object "SirenFair$Field") true := ⟨_, _, _, _, zc_SirenFair, by decide, w_fl_SF_23, rfl, rfl, rfl⟩
theorem w_fl_SF_36 : Cond.fieldLink "SirenFair" 36 "SirenFair" "isSaved" "[Z" ∈ zWd := zin 330 (by decide +kernel) rfl
theorem fl_SF_36 : zfl "SirenFair" 36 0 8 (.array (.boolean)) true := ⟨_, _, _, _, zc_SirenFair, by decide, w_fl_SF_36, rfl, rfl, rfl⟩
theorem w_fl_SF_80 : Cond.fieldLink "SirenFair" 80 "SirenFair$FairText" "at" "I" ∈ zWd := zin 63 (by decide +kernel) rfl
theorem fl_SF_80 : zfl "SirenFair" 80 2 2 (.int) false := ⟨_, _, _, _, zc_FairText, by decide, w_fl_SF_80, rfl, rfl, rfl⟩
theorem w_fl_SF_87 : Cond.fieldLink "SirenFair" 87 "SirenFair$FairText" "letter" "I" ∈ zWd := zin 65 (by decide +kernel) rfl
theorem fl_SF_87 : zfl "SirenFair" 87 2 3 (.int) false := ⟨_, _, _, _, zc_FairText, by decide, w_fl_SF_87, rfl, rfl, rfl⟩
theorem w_fl_SF_90 : Cond.fieldLink "SirenFair" 90 "SirenFair$FairText" "numbers" "[I" ∈ zWd := zin 67 (by decide +kernel) rfl
theorem fl_SF_90 : zfl "SirenFair" 90 2 4 (.array (.int)) true := ⟨_, _, _, _, zc_FairText, by decide, w_fl_SF_90, rfl, rfl, rfl⟩
theorem w_ml_SF_83 : Cond.methodLink "SirenFair" 83 Y_FairText_readCommand.1 ∈ zWd := zin 648 (by decide +kernel) rfl
theorem lkV_SF_83 : zlkV "SirenFair" 83 Y_FairText_readCommand 0 := ⟨lk_FairText_readCommand, w_ml_SF_83, w_im_FairText_readCommand, w_sel_FairText_readCommand⟩
theorem w_c_SF_obeys : Cond.code Y_SF_obeys.1 Y_SF_obeys.2.1 Y_SF_obeys.2.2.1 Y_SF_obeys.2.2.2.1 ∈ zWd := zin 651 (by decide +kernel) rfl
theorem lk_SF_obeys : zlk Y_SF_obeys 3 := ⟨w_c_SF_obeys, w_ini_SF, by decide +kernel, by decide +kernel, by decide⟩
theorem w_ml_SF_94 : Cond.methodLink "SirenFair" 94 Y_SF_obeys.1 ∈ zWd := zin 649 (by decide +kernel) rfl
theorem w_st_SF_obeys : Cond.static Y_SF_obeys.1 ∈ zWd := zin 650 (by decide +kernel) rfl
theorem lkS_SF_94 : zlkS "SirenFair" 94 Y_SF_obeys 3 := ⟨lk_SF_obeys, w_ml_SF_94, w_st_SF_obeys⟩
theorem w_ml_SF_77 : Cond.methodLink "SirenFair" 77 Y_FairText_toFirstCommand.1 ∈ zWd := zin 647 (by decide +kernel) rfl
theorem lkV_SF_77 : zlkV "SirenFair" 77 Y_FairText_toFirstCommand 0 := ⟨lk_FairText_toFirstCommand, w_ml_SF_77, w_im_FairText_toFirstCommand, w_sel_FairText_toFirstCommand⟩
theorem w_c_SF_forgetRemembered : Cond.code Y_SF_forgetRemembered.1 Y_SF_forgetRemembered.2.1 Y_SF_forgetRemembered.2.2.1 Y_SF_forgetRemembered.2.2.2.1 ∈ zWd := zin 646 (by decide +kernel) rfl
theorem lk_SF_forgetRemembered : zlk Y_SF_forgetRemembered 0 := ⟨w_c_SF_forgetRemembered, w_ini_SF, by decide +kernel, by decide +kernel, by decide⟩
theorem w_ml_SF_74 : Cond.methodLink "SirenFair" 74 Y_SF_forgetRemembered.1 ∈ zWd := zin 643 (by decide +kernel) rfl
theorem w_im_SF_forgetRemembered : Cond.instanceMethod Y_SF_forgetRemembered.1 ∈ zWd := zin 645 (by decide +kernel) rfl
theorem w_sel_SF_forgetRemembered : Cond.selects "SirenFair" Y_SF_forgetRemembered.1 Y_SF_forgetRemembered.1 ∈ zWd := zin 13 (by decide +kernel) rfl
theorem lkV_SF_74 : zlkV "SirenFair" 74 Y_SF_forgetRemembered 0 := ⟨lk_SF_forgetRemembered, w_ml_SF_74, w_im_SF_forgetRemembered, w_sel_SF_forgetRemembered⟩
theorem th_SF_55_68_59 : zthr "SirenFair" "java/lang/IllegalStateException" "the text is not a fair" 55 68 59 ["java/lang/RuntimeException", "java/lang/Exception"] := ⟨tha_SF_59, w_cl_SF_55, w_ini_IllegalStateException, List.mem_of_getElem? (i := 642) (by decide +kernel)⟩
theorem d_SF_append_0 : decode Y_SF_append.2.1 0 = .ok (.iload_n 1, 1) := by decide +kernel
theorem d_SF_append_1 : decode Y_SF_append.2.1 1 = .ok (.iconst (0), 1) := by decide +kernel
theorem d_SF_append_2 : decode Y_SF_append.2.1 2 = .ok (.sipush (255), 3) := by decide +kernel
theorem d_SF_append_5 : decode Y_SF_append.2.1 5 = .ok (.invokestatic 40, 3) := by decide +kernel
theorem d_SF_append_8 : decode Y_SF_append.2.1 8 = .ok (.ifCond .ne (13), 3) := by decide +kernel
theorem d_SF_append_11 : decode Y_SF_append.2.1 11 = .ok (.new 44, 3) := by decide +kernel
theorem d_SF_append_14 : decode Y_SF_append.2.1 14 = .ok (.dup, 1) := by decide +kernel
theorem d_SF_append_15 : decode Y_SF_append.2.1 15 = .ok (.ldc 46, 2) := by decide +kernel
theorem d_SF_append_17 : decode Y_SF_append.2.1 17 = .ok (.invokespecial 48, 3) := by decide +kernel
theorem d_SF_append_20 : decode Y_SF_append.2.1 20 = .ok (.athrow, 1) := by decide +kernel
theorem d_SF_append_21 : decode Y_SF_append.2.1 21 = .ok (.aload_n 0, 1) := by decide +kernel
theorem d_SF_append_22 : decode Y_SF_append.2.1 22 = .ok (.getfield 10, 3) := by decide +kernel
theorem d_SF_append_25 : decode Y_SF_append.2.1 25 = .ok (.getfield 51, 3) := by decide +kernel
theorem d_SF_append_28 : decode Y_SF_append.2.1 28 = .ok (.bipush (120), 2) := by decide +kernel
theorem d_SF_append_30 : decode Y_SF_append.2.1 30 = .ok (.if_icmp .lt (13), 3) := by decide +kernel
theorem d_SF_append_33 : decode Y_SF_append.2.1 33 = .ok (.new 55, 3) := by decide +kernel
theorem d_SF_append_36 : decode Y_SF_append.2.1 36 = .ok (.dup, 1) := by decide +kernel
theorem d_SF_append_37 : decode Y_SF_append.2.1 37 = .ok (.ldc 57, 2) := by decide +kernel
theorem d_SF_append_39 : decode Y_SF_append.2.1 39 = .ok (.invokespecial 59, 3) := by decide +kernel
theorem d_SF_append_42 : decode Y_SF_append.2.1 42 = .ok (.athrow, 1) := by decide +kernel
theorem d_SF_append_43 : decode Y_SF_append.2.1 43 = .ok (.aload_n 0, 1) := by decide +kernel
theorem d_SF_append_44 : decode Y_SF_append.2.1 44 = .ok (.getfield 10, 3) := by decide +kernel
theorem d_SF_append_47 : decode Y_SF_append.2.1 47 = .ok (.iload_n 1, 1) := by decide +kernel
theorem d_SF_append_48 : decode Y_SF_append.2.1 48 = .ok (.i2c, 1) := by decide +kernel
theorem d_SF_append_49 : decode Y_SF_append.2.1 49 = .ok (.invokevirtual 60, 3) := by decide +kernel
theorem d_SF_append_52 : decode Y_SF_append.2.1 52 = .ok (.ireturn, 1) := by decide +kernel
def f_SF_append (z : zT) (D : zD) (a : Nat) (x1 : Int32) : Option ((Int32 ⊕ String) × zD) := zci (f_SF_isWithin z D x1 (0 : Int32) (255 : Int32)) (fun v1 D2 => (if v1 = 0 then some (.inr "java/lang/IllegalArgumentException", D2) else zref z 0 0 a (fun p3 => zfld z D2 2 1 p3 (fun v4 => (if v4 < (120 : Int32) then zref z 0 0 a (fun p5 => zobj z 2 p5 (zci (f_FairText_add z D2 p5 ((x1.toUInt32 % 65536).toInt32)) (fun v6 D7 => some (.inl v6, D7)))) else some (.inr "java/lang/IllegalStateException", D2))))))
set_option maxHeartbeats 4000000 in
set_option maxRecDepth 100000 in
theorem c_SF_append (z : zT) (D : zD) (a : Nat) (x1 : Int32) : zMX Y_SF_append 8 1 6 (zqX z) (f_SF_append z D a x1) [.ref a, .int x1] z D := by
  refine zMX_of (plainFor_of_name (by decide +kernel)) rfl (Nat.le_of_ble_eq_true rfl) (fun K => ?_)
  unfold f_SF_append
  refine z_iload_n (pc := 0) d_SF_append_0 rfl 1 rfl ?_
  refine z_iconst (pc := 1) d_SF_append_1 ki_0 ?_
  refine z_sipush (pc := 2) d_SF_append_2 ks_255 ?_
  refine z_callSi (pc := 5) [.int x1, .int (0 : Int32), .int (255 : Int32)] lkS_SF_40 (c_SF_isWithin z D x1 (0 : Int32) (255 : Int32)) (by decide) rfl rfl (Nat.le_of_ble_eq_true rfl) d_SF_append_5 (fun v1 D2 => ?_)
  refine z_if_ne (pc := 8) (tgt := 21) d_SF_append_8 (by decide) ?_ ?_
  · exact z_throw (pc := 11) th_SF_44_46_48 rfl (by decide) (Nat.le_of_ble_eq_true rfl) (by decide) (by decide) d_SF_append_11 d_SF_append_14 d_SF_append_15 d_SF_append_17 d_SF_append_20
  · refine z_aload_n (pc := 21) d_SF_append_21 rfl 0 rfl ?_
    refine z_getR (pc := 22) fl_SF_10 d_SF_append_22 (fun p3 => ?_)
    refine z_getI (pc := 25) fl_SF_51 d_SF_append_25 (fun v4 => ?_)
    refine z_bipush (pc := 28) d_SF_append_28 kb_120 ?_
    refine z_icmp_lt (pc := 30) (tgt := 43) d_SF_append_30 (by decide) ?_ ?_
    · refine z_aload_n (pc := 43) d_SF_append_43 rfl 0 rfl ?_
      refine z_getR (pc := 44) fl_SF_10 d_SF_append_44 (fun p5 => ?_)
      refine z_iload_n (pc := 47) d_SF_append_47 rfl 1 rfl ?_
      refine z_i2c (pc := 48) d_SF_append_48 ?_
      refine z_callVi (pc := 49) [.int ((x1.toUInt32 % 65536).toInt32)] lkV_SF_60 rfl (c_FairText_add z D2 p5 ((x1.toUInt32 % 65536).toInt32)) (by decide) rfl rfl (Nat.le_of_ble_eq_true rfl) d_SF_append_49 (fun v6 D7 => ?_)
      exact z_xret (pc := 52) d_SF_append_52 rfl
    · exact z_throw (pc := 33) th_SF_55_57_59 rfl (by decide) (Nat.le_of_ble_eq_true rfl) (by decide) (by decide) d_SF_append_33 d_SF_append_36 d_SF_append_37 d_SF_append_39 d_SF_append_42
theorem d_SF_load_0 : decode Y_SF_load.2.1 0 = .ok (.aload_n 0, 1) := by decide +kernel
theorem d_SF_load_1 : decode Y_SF_load.2.1 1 = .ok (.getfield 10, 3) := by decide +kernel
theorem d_SF_load_4 : decode Y_SF_load.2.1 4 = .ok (.invokevirtual 64, 3) := by decide +kernel
theorem d_SF_load_7 : decode Y_SF_load.2.1 7 = .ok (.iconst (-1), 1) := by decide +kernel
theorem d_SF_load_8 : decode Y_SF_load.2.1 8 = .ok (.if_icmp .eq (13), 3) := by decide +kernel
theorem d_SF_load_11 : decode Y_SF_load.2.1 11 = .ok (.new 55, 3) := by decide +kernel
theorem d_SF_load_14 : decode Y_SF_load.2.1 14 = .ok (.dup, 1) := by decide +kernel
theorem d_SF_load_15 : decode Y_SF_load.2.1 15 = .ok (.ldc 68, 2) := by decide +kernel
theorem d_SF_load_17 : decode Y_SF_load.2.1 17 = .ok (.invokespecial 59, 3) := by decide +kernel
theorem d_SF_load_20 : decode Y_SF_load.2.1 20 = .ok (.athrow, 1) := by decide +kernel
theorem d_SF_load_21 : decode Y_SF_load.2.1 21 = .ok (.aload_n 0, 1) := by decide +kernel
theorem d_SF_load_22 : decode Y_SF_load.2.1 22 = .ok (.getfield 19, 3) := by decide +kernel
theorem d_SF_load_25 : decode Y_SF_load.2.1 25 = .ok (.aload_n 0, 1) := by decide +kernel
theorem d_SF_load_26 : decode Y_SF_load.2.1 26 = .ok (.getfield 23, 3) := by decide +kernel
theorem d_SF_load_29 : decode Y_SF_load.2.1 29 = .ok (.invokevirtual 70, 3) := by decide +kernel
theorem d_SF_load_32 : decode Y_SF_load.2.1 32 = .ok (.aload_n 0, 1) := by decide +kernel
theorem d_SF_load_33 : decode Y_SF_load.2.1 33 = .ok (.invokevirtual 74, 3) := by decide +kernel
theorem d_SF_load_36 : decode Y_SF_load.2.1 36 = .ok (.iconst (0), 1) := by decide +kernel
theorem d_SF_load_37 : decode Y_SF_load.2.1 37 = .ok (.istore_n 1, 1) := by decide +kernel
theorem d_SF_load_38 : decode Y_SF_load.2.1 38 = .ok (.iload_n 1, 1) := by decide +kernel
theorem d_SF_load_39 : decode Y_SF_load.2.1 39 = .ok (.iconst (2), 1) := by decide +kernel
theorem d_SF_load_40 : decode Y_SF_load.2.1 40 = .ok (.if_icmp .ge (16), 3) := by decide +kernel
theorem d_SF_load_43 : decode Y_SF_load.2.1 43 = .ok (.aload_n 0, 1) := by decide +kernel
theorem d_SF_load_44 : decode Y_SF_load.2.1 44 = .ok (.getfield 36, 3) := by decide +kernel
theorem d_SF_load_47 : decode Y_SF_load.2.1 47 = .ok (.iload_n 1, 1) := by decide +kernel
theorem d_SF_load_48 : decode Y_SF_load.2.1 48 = .ok (.iconst (0), 1) := by decide +kernel
theorem d_SF_load_49 : decode Y_SF_load.2.1 49 = .ok (.bastore, 1) := by decide +kernel
theorem d_SF_load_50 : decode Y_SF_load.2.1 50 = .ok (.iinc 1 (1), 3) := by decide +kernel
theorem d_SF_load_53 : decode Y_SF_load.2.1 53 = .ok (.goto (-15), 3) := by decide +kernel
theorem d_SF_load_56 : decode Y_SF_load.2.1 56 = .ok (.iconst (0), 1) := by decide +kernel
theorem d_SF_load_57 : decode Y_SF_load.2.1 57 = .ok (.istore_n 1, 1) := by decide +kernel
theorem d_SF_load_58 : decode Y_SF_load.2.1 58 = .ok (.aload_n 0, 1) := by decide +kernel
theorem d_SF_load_59 : decode Y_SF_load.2.1 59 = .ok (.getfield 10, 3) := by decide +kernel
theorem d_SF_load_62 : decode Y_SF_load.2.1 62 = .ok (.invokevirtual 77, 3) := by decide +kernel
theorem d_SF_load_65 : decode Y_SF_load.2.1 65 = .ok (.iconst (0), 1) := by decide +kernel
theorem d_SF_load_66 : decode Y_SF_load.2.1 66 = .ok (.istore_n 2, 1) := by decide +kernel
theorem d_SF_load_67 : decode Y_SF_load.2.1 67 = .ok (.iload_n 2, 1) := by decide +kernel
theorem d_SF_load_68 : decode Y_SF_load.2.1 68 = .ok (.bipush (120), 2) := by decide +kernel
theorem d_SF_load_70 : decode Y_SF_load.2.1 70 = .ok (.if_icmp .ge (63), 3) := by decide +kernel
theorem d_SF_load_73 : decode Y_SF_load.2.1 73 = .ok (.aload_n 0, 1) := by decide +kernel
theorem d_SF_load_74 : decode Y_SF_load.2.1 74 = .ok (.getfield 10, 3) := by decide +kernel
theorem d_SF_load_77 : decode Y_SF_load.2.1 77 = .ok (.getfield 80, 3) := by decide +kernel
theorem d_SF_load_80 : decode Y_SF_load.2.1 80 = .ok (.aload_n 0, 1) := by decide +kernel
theorem d_SF_load_81 : decode Y_SF_load.2.1 81 = .ok (.getfield 10, 3) := by decide +kernel
theorem d_SF_load_84 : decode Y_SF_load.2.1 84 = .ok (.getfield 51, 3) := by decide +kernel
theorem d_SF_load_87 : decode Y_SF_load.2.1 87 = .ok (.if_icmp .ge (46), 3) := by decide +kernel
theorem d_SF_load_90 : decode Y_SF_load.2.1 90 = .ok (.aload_n 0, 1) := by decide +kernel
theorem d_SF_load_91 : decode Y_SF_load.2.1 91 = .ok (.getfield 10, 3) := by decide +kernel
theorem d_SF_load_94 : decode Y_SF_load.2.1 94 = .ok (.invokevirtual 83, 3) := by decide +kernel
theorem d_SF_load_97 : decode Y_SF_load.2.1 97 = .ok (.ifCond .eq (36), 3) := by decide +kernel
theorem d_SF_load_100 : decode Y_SF_load.2.1 100 = .ok (.aload_n 0, 1) := by decide +kernel
theorem d_SF_load_101 : decode Y_SF_load.2.1 101 = .ok (.getfield 19, 3) := by decide +kernel
theorem d_SF_load_104 : decode Y_SF_load.2.1 104 = .ok (.aload_n 0, 1) := by decide +kernel
theorem d_SF_load_105 : decode Y_SF_load.2.1 105 = .ok (.getfield 10, 3) := by decide +kernel
theorem d_SF_load_108 : decode Y_SF_load.2.1 108 = .ok (.getfield 87, 3) := by decide +kernel
theorem d_SF_load_111 : decode Y_SF_load.2.1 111 = .ok (.aload_n 0, 1) := by decide +kernel
theorem d_SF_load_112 : decode Y_SF_load.2.1 112 = .ok (.getfield 10, 3) := by decide +kernel
theorem d_SF_load_115 : decode Y_SF_load.2.1 115 = .ok (.getfield 90, 3) := by decide +kernel
theorem d_SF_load_118 : decode Y_SF_load.2.1 118 = .ok (.invokestatic 94, 3) := by decide +kernel
theorem d_SF_load_121 : decode Y_SF_load.2.1 121 = .ok (.ifCond .ne (6), 3) := by decide +kernel
theorem d_SF_load_124 : decode Y_SF_load.2.1 124 = .ok (.iinc 1 (1), 3) := by decide +kernel
theorem d_SF_load_127 : decode Y_SF_load.2.1 127 = .ok (.iinc 2 (1), 3) := by decide +kernel
theorem d_SF_load_130 : decode Y_SF_load.2.1 130 = .ok (.goto (-63), 3) := by decide +kernel
theorem d_SF_load_133 : decode Y_SF_load.2.1 133 = .ok (.iload_n 1, 1) := by decide +kernel
theorem d_SF_load_134 : decode Y_SF_load.2.1 134 = .ok (.ireturn, 1) := by decide +kernel
def f_SF_load (z : zT) (D : zD) (a : Nat) : Option ((Int32 ⊕ String) × zD) := zref z 0 0 a (fun p1 => zobj z 2 p1 (zci (f_FairText_firstError z D p1 ) (fun v2 D3 => (if v2 = (-1 : Int32) then zjp (zlp (fun (_ : Int32) (_ : zD) => none) (fun (j38 : Int32 → zD → Option ((Int32 ⊕ String) × zD)) (x1 : Int32) (D4 : zD) => (if (2 : Int32) ≤ x1 then zjp (zlp (fun (_ : Int32) (_ : Int32) (_ : zD) => none) (fun (j67 : Int32 → Int32 → zD → Option ((Int32 ⊕ String) × zD)) (x1 : Int32) (x2 : Int32) (D5 : zD) => zjp (fun (x1 : Int32) (D6 : zD) => some (.inl x1, D6)) (fun j133 => (if (120 : Int32) ≤ x2 then j133 x1 D5 else zref z 0 0 a (fun p7 => zfld z D5 2 2 p7 (fun v8 => zref z 0 0 a (fun p9 => zfld z D5 2 1 p9 (fun v10 => (if v10 ≤ v8 then j133 x1 D5 else zref z 0 0 a (fun p11 => zobj z 2 p11 (zci (f_FairText_readCommand z D5 p11 ) (fun v12 D13 => (if v12 = 0 then j133 x1 D13 else zjp (fun (x1 : Int32) (x2 : Int32) (D14 : zD) => zlet (x2 + (1 : Int32)) (fun v15 => j67 x1 v15 D14)) (fun j127 => zref z 0 1 a (fun p16 => zref z 0 0 a (fun p17 => zfld z D13 2 3 p17 (fun v18 => zref z 0 0 a (fun p19 => zref z 2 4 p19 (fun p20 => zci (f_SF_obeys z D13 p16 v18 p20) (fun v21 D22 => (if v21 = 0 then zlet (x1 + (1 : Int32)) (fun v23 => j127 v23 x2 D22) else j127 x1 x2 D22)))))))))))))))))))) zfuel) (fun j67 => zref z 0 0 a (fun p24 => zobj z 2 p24 (zcv (f_FairText_toFirstCommand z D4 p24 ) (fun D25 => j67 (0 : Int32) (0 : Int32) D25)))) else zref z 0 8 a (fun p26 => zast z D4 2 p26 x1 (vp_nar .boolean (0 : Int32)) (fun D27 => zlet (x1 + (1 : Int32)) (fun v28 => j38 v28 D27))))) zfuel) (fun j38 => zref z 0 1 a (fun p29 => zref z 0 2 a (fun p30 => zobj z 3 p29 (zcv (f_Field_copyFrom z D3 p29 p30) (fun D31 => zobj z 0 a (zcv (f_SF_forgetRemembered z D31 a ) (fun D32 => j38 (0 : Int32) D32))))))) else some (.inr "java/lang/IllegalStateException", D3)))))
set_option maxHeartbeats 4000000 in
set_option maxRecDepth 100000 in
theorem c_SF_load (z : zT) (D : zD) (a : Nat) : zMX Y_SF_load 8 1 6 (zqX z) (f_SF_load z D a) [.ref a] z D := by
  refine zMX_of (plainFor_of_name (by decide +kernel)) rfl (Nat.le_of_ble_eq_true rfl) (fun K => ?_)
  unfold f_SF_load
  refine z_aload_n (pc := 0) d_SF_load_0 rfl 0 rfl ?_
  refine z_getR (pc := 1) fl_SF_10 d_SF_load_1 (fun p1 => ?_)
  refine z_callVi (pc := 4) [] lkV_SF_64 rfl (c_FairText_firstError z D p1 ) (by decide) rfl rfl (Nat.le_of_ble_eq_true rfl) d_SF_load_4 (fun v2 D3 => ?_)
  refine z_iconst (pc := 7) d_SF_load_7 ki_m1 ?_
  refine z_icmp_eq (pc := 8) (tgt := 21) d_SF_load_8 (by decide) ?_ ?_
  · refine z_jp (fun j38 : Int32 → zD → Option ((Int32 ⊕ String) × zD) => ∀ (x1 : Int32) (D4 : zD), zGO K Y_SF_load 8 1 6 (zqX z) (j38 x1 D4) 1 6 z D4 38 [(0, .ref a), (1, .int x1)] []) (z_lp (fun j38 : Int32 → zD → Option ((Int32 ⊕ String) × zD) => ∀ (x1 : Int32) (D4 : zD), zGO K Y_SF_load 8 1 6 (zqX z) (j38 x1 D4) 1 6 z D4 38 [(0, .ref a), (1, .int x1)] []) (fun _ _ => z_none) (fun j38 h38 x1 D4 => ?_) zfuel) (fun j38 h38 => ?_)
    · refine z_iload_n (pc := 38) d_SF_load_38 rfl 1 rfl ?_
      refine z_iconst (pc := 39) d_SF_load_39 ki_2 ?_
      refine z_icmp_ge (pc := 40) (tgt := 56) d_SF_load_40 (by decide) ?_ ?_
      · refine z_jp (fun j67 : Int32 → Int32 → zD → Option ((Int32 ⊕ String) × zD) => ∀ (x1 : Int32) (x2 : Int32) (D5 : zD), zGO K Y_SF_load 8 1 6 (zqX z) (j67 x1 x2 D5) 1 6 z D5 67 [(0, .ref a), (1, .int x1), (2, .int x2)] []) (z_lp (fun j67 : Int32 → Int32 → zD → Option ((Int32 ⊕ String) × zD) => ∀ (x1 : Int32) (x2 : Int32) (D5 : zD), zGO K Y_SF_load 8 1 6 (zqX z) (j67 x1 x2 D5) 1 6 z D5 67 [(0, .ref a), (1, .int x1), (2, .int x2)] []) (fun _ _ _ => z_none) (fun j67 h67 x1 x2 D5 => ?_) zfuel) (fun j67 h67 => ?_)
        · refine z_jp (fun j133 : Int32 → zD → Option ((Int32 ⊕ String) × zD) => ∀ (x1 : Int32) (D6 : zD), zGO K Y_SF_load 8 1 6 (zqX z) (j133 x1 D6) 1 6 z D6 133 [(1, .int x1)] []) (fun x1 D6 => ?_) (fun j133 h133 => ?_)
          · refine z_iload_n (pc := 133) d_SF_load_133 rfl 0 rfl ?_
            exact z_xret (pc := 134) d_SF_load_134 rfl
          · refine z_iload_n (pc := 67) d_SF_load_67 rfl 2 rfl ?_
            refine z_bipush (pc := 68) d_SF_load_68 kb_120 ?_
            refine z_icmp_ge (pc := 70) (tgt := 133) d_SF_load_70 (by decide) ?_ ?_
            · exact z_sub [1] rfl (h133 x1 D5)
            · refine z_aload_n (pc := 73) d_SF_load_73 rfl 0 rfl ?_
              refine z_getR (pc := 74) fl_SF_10 d_SF_load_74 (fun p7 => ?_)
              refine z_getI (pc := 77) fl_SF_80 d_SF_load_77 (fun v8 => ?_)
              refine z_aload_n (pc := 80) d_SF_load_80 rfl 0 rfl ?_
              refine z_getR (pc := 81) fl_SF_10 d_SF_load_81 (fun p9 => ?_)
              refine z_getI (pc := 84) fl_SF_51 d_SF_load_84 (fun v10 => ?_)
              refine z_icmp_ge (pc := 87) (tgt := 133) d_SF_load_87 (by decide) ?_ ?_
              · exact z_sub [1] rfl (h133 x1 D5)
              · refine z_aload_n (pc := 90) d_SF_load_90 rfl 0 rfl ?_
                refine z_getR (pc := 91) fl_SF_10 d_SF_load_91 (fun p11 => ?_)
                refine z_callVi (pc := 94) [] lkV_SF_83 rfl (c_FairText_readCommand z D5 p11 ) (by decide) rfl rfl (Nat.le_of_ble_eq_true rfl) d_SF_load_94 (fun v12 D13 => ?_)
                refine z_if_eq (pc := 97) (tgt := 133) d_SF_load_97 (by decide) ?_ ?_
                · exact z_sub [1] rfl (h133 x1 D13)
                · refine z_jp (fun j127 : Int32 → Int32 → zD → Option ((Int32 ⊕ String) × zD) => ∀ (x1 : Int32) (x2 : Int32) (D14 : zD), zGO K Y_SF_load 8 1 6 (zqX z) (j127 x1 x2 D14) 1 6 z D14 127 [(0, .ref a), (1, .int x1), (2, .int x2)] []) (fun x1 x2 D14 => ?_) (fun j127 h127 => ?_)
                  · refine z_iincL (pc := 127) d_SF_load_127 ki_1 2 rfl (by decide) (fun v15 => z_lvc (lv2 := [(2, .int v15), (0, .ref a), (1, .int x1)]) rfl ?_)
                    refine z_goto (pc := 130) (tgt := 67) d_SF_load_130 (by decide) ?_
                    exact z_sub [1, 2, 0] rfl (h67 x1 v15 D14)
                  · refine z_aload_n (pc := 100) d_SF_load_100 rfl 0 rfl ?_
                    refine z_getR (pc := 101) fl_SF_19 d_SF_load_101 (fun p16 => ?_)
                    refine z_aload_n (pc := 104) d_SF_load_104 rfl 0 rfl ?_
                    refine z_getR (pc := 105) fl_SF_10 d_SF_load_105 (fun p17 => ?_)
                    refine z_getI (pc := 108) fl_SF_87 d_SF_load_108 (fun v18 => ?_)
                    refine z_aload_n (pc := 111) d_SF_load_111 rfl 0 rfl ?_
                    refine z_getR (pc := 112) fl_SF_10 d_SF_load_112 (fun p19 => ?_)
                    refine z_getR (pc := 115) fl_SF_90 d_SF_load_115 (fun p20 => ?_)
                    refine z_callSi (pc := 118) [.ref p16, .int v18, .ref p20] lkS_SF_94 (c_SF_obeys z D13 p16 v18 p20) (by decide) rfl rfl (Nat.le_of_ble_eq_true rfl) d_SF_load_118 (fun v21 D22 => ?_)
                    refine z_if_ne (pc := 121) (tgt := 127) d_SF_load_121 (by decide) ?_ ?_
                    · refine z_iincL (pc := 124) d_SF_load_124 ki_1 1 rfl (by decide) (fun v23 => z_lvc (lv2 := [(1, .int v23), (0, .ref a), (2, .int x2)]) rfl ?_)
                      exact z_sub [1, 0, 2] rfl (h127 v23 x2 D22)
                    · exact z_sub [0, 1, 2] rfl (h127 x1 x2 D22)
        · refine z_iconst (pc := 56) d_SF_load_56 ki_0 ?_
          refine z_istore_n (pc := 57) d_SF_load_57 rfl (by decide) (lv' := [(1, .int (0 : Int32)), (0, .ref a)]) rfl ?_
          refine z_aload_n (pc := 58) d_SF_load_58 rfl 1 rfl ?_
          refine z_getR (pc := 59) fl_SF_10 d_SF_load_59 (fun p24 => ?_)
          refine z_callVv (pc := 62) [] lkV_SF_77 rfl (c_FairText_toFirstCommand z D4 p24 ) (by decide) rfl rfl (Nat.le_of_ble_eq_true rfl) d_SF_load_62 (fun D25 => ?_)
          refine z_iconst (pc := 65) d_SF_load_65 ki_0 ?_
          refine z_istore_n (pc := 66) d_SF_load_66 rfl (by decide) (lv' := [(2, .int (0 : Int32)), (1, .int (0 : Int32)), (0, .ref a)]) rfl ?_
          exact z_sub [2, 1, 0] rfl (h67 (0 : Int32) (0 : Int32) D25)
      · refine z_aload_n (pc := 43) d_SF_load_43 rfl 0 rfl ?_
        refine z_getR (pc := 44) fl_SF_36 d_SF_load_44 (fun p26 => ?_)
        refine z_iload_n (pc := 47) d_SF_load_47 rfl 1 rfl ?_
        refine z_iconst (pc := 48) d_SF_load_48 ki_0 ?_
        refine z_bastore (pc := 49) d_SF_load_49 (fun D27 => ?_)
        refine z_iincL (pc := 50) d_SF_load_50 ki_1 1 rfl (by decide) (fun v28 => z_lvc (lv2 := [(1, .int v28), (0, .ref a)]) rfl ?_)
        refine z_goto (pc := 53) (tgt := 38) d_SF_load_53 (by decide) ?_
        exact z_sub [1, 0] rfl (h38 v28 D27)
    · refine z_aload_n (pc := 21) d_SF_load_21 rfl 0 rfl ?_
      refine z_getR (pc := 22) fl_SF_19 d_SF_load_22 (fun p29 => ?_)
      refine z_aload_n (pc := 25) d_SF_load_25 rfl 0 rfl ?_
      refine z_getR (pc := 26) fl_SF_23 d_SF_load_26 (fun p30 => ?_)
      refine z_callVv (pc := 29) [.ref p30] lkV_SF_70 rfl (c_Field_copyFrom z D3 p29 p30) (by decide) rfl rfl (Nat.le_of_ble_eq_true rfl) d_SF_load_29 (fun D31 => ?_)
      refine z_aload_n (pc := 32) d_SF_load_32 rfl 0 rfl ?_
      refine z_callVv (pc := 33) [] lkV_SF_74 rfl (c_SF_forgetRemembered z D31 a ) (by decide) rfl rfl (Nat.le_of_ble_eq_true rfl) d_SF_load_33 (fun D32 => ?_)
      refine z_iconst (pc := 36) d_SF_load_36 ki_0 ?_
      refine z_istore_n (pc := 37) d_SF_load_37 rfl (by decide) (lv' := [(1, .int (0 : Int32)), (0, .ref a)]) rfl ?_
      exact z_sub [1, 0] rfl (h38 (0 : Int32) D32)
  · exact z_throw (pc := 11) th_SF_55_68_59 rfl (by decide) (Nat.le_of_ble_eq_true rfl) (by decide) (by decide) d_SF_load_11 d_SF_load_14 d_SF_load_15 d_SF_load_17 d_SF_load_20
