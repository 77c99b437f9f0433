theorem kb_10 : (Int8.ofInt (10)).toInt32 = (10 : Int32) := by decide +kernel
theorem kb_108 : (Int8.ofInt (108)).toInt32 = (108 : Int32) := by decide +kernel
theorem kb_117 : (Int8.ofInt (117)).toInt32 = (117 : Int32) := by decide +kernel
theorem kb_120 : (Int8.ofInt (120)).toInt32 = (120 : Int32) := by decide +kernel
theorem kb_20 : (Int8.ofInt (20)).toInt32 = (20 : Int32) := by decide +kernel
theorem kb_43 : (Int8.ofInt (43)).toInt32 = (43 : Int32) := by decide +kernel
theorem kb_45 : (Int8.ofInt (45)).toInt32 = (45 : Int32) := by decide +kernel
theorem kb_48 : (Int8.ofInt (48)).toInt32 = (48 : Int32) := by decide +kernel
theorem kb_6 : (Int8.ofInt (6)).toInt32 = (6 : Int32) := by decide +kernel
theorem kb_70 : (Int8.ofInt (70)).toInt32 = (70 : Int32) := by decide +kernel
theorem kb_80 : (Int8.ofInt (80)).toInt32 = (80 : Int32) := by decide +kernel
theorem kb_85 : (Int8.ofInt (85)).toInt32 = (85 : Int32) := by decide +kernel
theorem kb_9 : (Int8.ofInt (9)).toInt32 = (9 : Int32) := by decide +kernel
theorem kb_99 : (Int8.ofInt (99)).toInt32 = (99 : Int32) := by decide +kernel
theorem ki_5 : Int32.ofInt (5) = (5 : Int32) := by decide +kernel
def Y_FairText_init : zY := (⟨"SirenFair$FairText", "<init>", "()V"⟩, prog_3_method_1_code, 1, none, [])
theorem w_ml_FairText_3 : Cond.methodLink "SirenFair$FairText" 3 Lib.objectInit ∈ zWd := zin 47 (by decide +kernel) rfl
theorem w_ac_char : Cond.arrayClass .char ∈ zWd := zin 68 (by decide +kernel) rfl
theorem w_fl_FairText_11 : Cond.fieldLink "SirenFair$FairText" 11 "SirenFair$FairText" "signs" "[C" ∈ zWd := zin 48 (by decide +kernel) rfl
theorem in_FairText : ∀ w ∈ u_ws "SirenFair$FairText" T_FairText 5, w ∈ zWd := by decide +kernel
theorem zc_FairText : zcls 2 "SirenFair$FairText" T_FairText 5 ty_FairText := ⟨rfl, in_FairText, nm_FairText, tyok_FairText⟩
theorem fl_FairText_11 : zfl "SirenFair$FairText" 11 2 0 (.array (.char)) true := ⟨_, _, _, _, zc_FairText, by decide, w_fl_FairText_11, rfl, rfl, rfl⟩
theorem w_fl_FairText_15 : Cond.fieldLink "SirenFair$FairText" 15 "SirenFair$FairText" "numbers" "[I" ∈ zWd := zin 55 (by decide +kernel) rfl
theorem fl_FairText_15 : zfl "SirenFair$FairText" 15 2 4 (.array (.int)) true := ⟨_, _, _, _, zc_FairText, by decide, w_fl_FairText_15, rfl, rfl, rfl⟩
def Y_FairText_add : zY := (⟨"SirenFair$FairText", "add", "(C)I"⟩, prog_3_method_2_code, 2, some .int, [])
theorem w_fl_FairText_19 : Cond.fieldLink "SirenFair$FairText" 19 "SirenFair$FairText" "length" "I" ∈ zWd := zin 49 (by decide +kernel) rfl
theorem fl_FairText_19 : zfl "SirenFair$FairText" 19 2 1 (.int) false := ⟨_, _, _, _, zc_FairText, by decide, w_fl_FairText_19, rfl, rfl, rfl⟩
def Y_FairText_toFirstCommand : zY := (⟨"SirenFair$FairText", "toFirstCommand", "()V"⟩, prog_3_method_4_code, 1, none, [])
theorem w_fl_FairText_23 : Cond.fieldLink "SirenFair$FairText" 23 "SirenFair$FairText" "at" "I" ∈ zWd := zin 51 (by decide +kernel) rfl
theorem fl_FairText_23 : zfl "SirenFair$FairText" 23 2 2 (.int) false := ⟨_, _, _, _, zc_FairText, by decide, w_fl_FairText_23, rfl, rfl, rfl⟩
def Y_FairText_next : zY := (⟨"SirenFair$FairText", "next", "()I"⟩, prog_3_method_6_code, 1, some .int, [])
def Y_FairText_isNext : zY := (⟨"SirenFair$FairText", "isNext", "(C)Z"⟩, prog_3_method_7_code, 2, some .boolean, [])
theorem w_c_FairText_next : Cond.code Y_FairText_next.1 Y_FairText_next.2.1 Y_FairText_next.2.2.1 Y_FairText_next.2.2.2.1 ∈ zWd := zin 533 (by decide +kernel) rfl
theorem w_ini_FairText : Cond.initialized "SirenFair$FairText" ∈ zWd := zin 17 (by decide +kernel) rfl
theorem lk_FairText_next : zlk Y_FairText_next 0 := ⟨w_c_FairText_next, w_ini_FairText, by decide +kernel, by decide +kernel, by decide⟩
theorem w_ml_FairText_37 : Cond.methodLink "SirenFair$FairText" 37 Y_FairText_next.1 ∈ zWd := zin 530 (by decide +kernel) rfl
theorem w_im_FairText_next : Cond.instanceMethod Y_FairText_next.1 ∈ zWd := zin 532 (by decide +kernel) rfl
theorem w_sel_FairText_next : Cond.selects "SirenFair$FairText" Y_FairText_next.1 Y_FairText_next.1 ∈ zWd := zin 3 (by decide +kernel) rfl
theorem lkV_FairText_37 : zlkV "SirenFair$FairText" 37 Y_FairText_next 0 := ⟨lk_FairText_next, w_ml_FairText_37, w_im_FairText_next, w_sel_FairText_next⟩
def Y_FairText_nextDigit : zY := (⟨"SirenFair$FairText", "nextDigit", "(II)I"⟩, prog_3_method_8_code, 4, some .int, [])
def Y_FairText_readOne : zY := (⟨"SirenFair$FairText", "readOne", "(III)Z"⟩, prog_3_method_9_code, 5, some .boolean, [])
theorem w_c_FairText_nextDigit : Cond.code Y_FairText_nextDigit.1 Y_FairText_nextDigit.2.1 Y_FairText_nextDigit.2.2.1 Y_FairText_nextDigit.2.2.2.1 ∈ zWd := zin 549 (by decide +kernel) rfl
theorem lk_FairText_nextDigit : zlk Y_FairText_nextDigit 2 := ⟨w_c_FairText_nextDigit, w_ini_FairText, by decide +kernel, by decide +kernel, by decide⟩
theorem w_ml_FairText_55 : Cond.methodLink "SirenFair$FairText" 55 Y_FairText_nextDigit.1 ∈ zWd := zin 546 (by decide +kernel) rfl
theorem w_im_FairText_nextDigit : Cond.instanceMethod Y_FairText_nextDigit.1 ∈ zWd := zin 548 (by decide +kernel) rfl
theorem w_sel_FairText_nextDigit : Cond.selects "SirenFair$FairText" Y_FairText_nextDigit.1 Y_FairText_nextDigit.1 ∈ zWd := zin 5 (by decide +kernel) rfl
theorem lkV_FairText_55 : zlkV "SirenFair$FairText" 55 Y_FairText_nextDigit 2 := ⟨lk_FairText_nextDigit, w_ml_FairText_55, w_im_FairText_nextDigit, w_sel_FairText_nextDigit⟩
def Y_FairText_readTwo : zY := (⟨"SirenFair$FairText", "readTwo", "(III)Z"⟩, prog_3_method_10_code, 6, some .boolean, [])
def Y_FairText_readEither : zY := (⟨"SirenFair$FairText", "readEither", "(ICC)Z"⟩, prog_3_method_11_code, 4, some .boolean, [])
theorem w_c_FairText_isNext : Cond.code Y_FairText_isNext.1 Y_FairText_isNext.2.1 Y_FairText_isNext.2.2.1 Y_FairText_isNext.2.2.2.1 ∈ zWd := zin 529 (by decide +kernel) rfl
theorem lk_FairText_isNext : zlk Y_FairText_isNext 1 := ⟨w_c_FairText_isNext, w_ini_FairText, by decide +kernel, by decide +kernel, by decide⟩
theorem w_ml_FairText_26 : Cond.methodLink "SirenFair$FairText" 26 Y_FairText_isNext.1 ∈ zWd := zin 526 (by decide +kernel) rfl
theorem w_im_FairText_isNext : Cond.instanceMethod Y_FairText_isNext.1 ∈ zWd := zin 528 (by decide +kernel) rfl
theorem w_sel_FairText_isNext : Cond.selects "SirenFair$FairText" Y_FairText_isNext.1 Y_FairText_isNext.1 ∈ zWd := zin 2 (by decide +kernel) rfl
theorem lkV_FairText_26 : zlkV "SirenFair$FairText" 26 Y_FairText_isNext 1 := ⟨lk_FairText_isNext, w_ml_FairText_26, w_im_FairText_isNext, w_sel_FairText_isNext⟩
def Y_FairText_readCommand : zY := (⟨"SirenFair$FairText", "readCommand", "()Z"⟩, prog_3_method_5_code, 1, some .boolean, [])
theorem w_fl_FairText_41 : Cond.fieldLink "SirenFair$FairText" 41 "SirenFair$FairText" "letter" "I" ∈ zWd := zin 53 (by decide +kernel) rfl
theorem fl_FairText_41 : zfl "SirenFair$FairText" 41 2 3 (.int) false := ⟨_, _, _, _, zc_FairText, by decide, w_fl_FairText_41, rfl, rfl, rfl⟩
theorem w_c_FairText_readOne : Cond.code Y_FairText_readOne.1 Y_FairText_readOne.2.1 Y_FairText_readOne.2.2.1 Y_FairText_readOne.2.2.2.1 ∈ zWd := zin 553 (by decide +kernel) rfl
theorem lk_FairText_readOne : zlk Y_FairText_readOne 3 := ⟨w_c_FairText_readOne, w_ini_FairText, by decide +kernel, by decide +kernel, by decide⟩
theorem w_ml_FairText_48 : Cond.methodLink "SirenFair$FairText" 48 Y_FairText_readOne.1 ∈ zWd := zin 550 (by decide +kernel) rfl
theorem w_im_FairText_readOne : Cond.instanceMethod Y_FairText_readOne.1 ∈ zWd := zin 552 (by decide +kernel) rfl
theorem w_sel_FairText_readOne : Cond.selects "SirenFair$FairText" Y_FairText_readOne.1 Y_FairText_readOne.1 ∈ zWd := zin 6 (by decide +kernel) rfl
theorem lkV_FairText_48 : zlkV "SirenFair$FairText" 48 Y_FairText_readOne 3 := ⟨lk_FairText_readOne, w_ml_FairText_48, w_im_FairText_readOne, w_sel_FairText_readOne⟩
theorem w_c_FairText_readTwo : Cond.code Y_FairText_readTwo.1 Y_FairText_readTwo.2.1 Y_FairText_readTwo.2.2.1 Y_FairText_readTwo.2.2.2.1 ∈ zWd := zin 545 (by decide +kernel) rfl
theorem lk_FairText_readTwo : zlk Y_FairText_readTwo 3 := ⟨w_c_FairText_readTwo, w_ini_FairText, by decide +kernel, by decide +kernel, by decide⟩
theorem w_ml_FairText_44 : Cond.methodLink "SirenFair$FairText" 44 Y_FairText_readTwo.1 ∈ zWd := zin 542 (by decide +kernel) rfl
theorem w_im_FairText_readTwo : Cond.instanceMethod Y_FairText_readTwo.1 ∈ zWd := zin 544 (by decide +kernel) rfl
theorem w_sel_FairText_readTwo : Cond.selects "SirenFair$FairText" Y_FairText_readTwo.1 Y_FairText_readTwo.1 ∈ zWd := zin 4 (by decide +kernel) rfl
theorem lkV_FairText_44 : zlkV "SirenFair$FairText" 44 Y_FairText_readTwo 3 := ⟨lk_FairText_readTwo, w_ml_FairText_44, w_im_FairText_readTwo, w_sel_FairText_readTwo⟩
theorem w_c_FairText_readEither : Cond.code Y_FairText_readEither.1 Y_FairText_readEither.2.1 Y_FairText_readEither.2.2.1 Y_FairText_readEither.2.2.2.1 ∈ zWd := zin 557 (by decide +kernel) rfl
theorem lk_FairText_readEither : zlk Y_FairText_readEither 3 := ⟨w_c_FairText_readEither, w_ini_FairText, by decide +kernel, by decide +kernel, by decide⟩
theorem w_ml_FairText_51 : Cond.methodLink "SirenFair$FairText" 51 Y_FairText_readEither.1 ∈ zWd := zin 554 (by decide +kernel) rfl
theorem w_im_FairText_readEither : Cond.instanceMethod Y_FairText_readEither.1 ∈ zWd := zin 556 (by decide +kernel) rfl
theorem w_sel_FairText_readEither : Cond.selects "SirenFair$FairText" Y_FairText_readEither.1 Y_FairText_readEither.1 ∈ zWd := zin 7 (by decide +kernel) rfl
theorem lkV_FairText_51 : zlkV "SirenFair$FairText" 51 Y_FairText_readEither 3 := ⟨lk_FairText_readEither, w_ml_FairText_51, w_im_FairText_readEither, w_sel_FairText_readEither⟩
def Y_FairText_firstError : zY := (⟨"SirenFair$FairText", "firstError", "()I"⟩, prog_3_method_3_code, 3, some .int, [])
theorem w_c_FairText_readCommand : Cond.code Y_FairText_readCommand.1 Y_FairText_readCommand.2.1 Y_FairText_readCommand.2.2.1 Y_FairText_readCommand.2.2.2.1 ∈ zWd := zin 541 (by decide +kernel) rfl
theorem lk_FairText_readCommand : zlk Y_FairText_readCommand 0 := ⟨w_c_FairText_readCommand, w_ini_FairText, by decide +kernel, by decide +kernel, by decide⟩
theorem w_ml_FairText_33 : Cond.methodLink "SirenFair$FairText" 33 Y_FairText_readCommand.1 ∈ zWd := zin 538 (by decide +kernel) rfl
theorem w_im_FairText_readCommand : Cond.instanceMethod Y_FairText_readCommand.1 ∈ zWd := zin 539 (by decide +kernel) rfl
theorem w_sel_FairText_readCommand : Cond.selects "SirenFair$FairText" Y_FairText_readCommand.1 Y_FairText_readCommand.1 ∈ zWd := zin 540 (by decide +kernel) rfl
theorem lkV_FairText_33 : zlkV "SirenFair$FairText" 33 Y_FairText_readCommand 0 := ⟨lk_FairText_readCommand, w_ml_FairText_33, w_im_FairText_readCommand, w_sel_FairText_readCommand⟩
theorem w_c_FairText_toFirstCommand : Cond.code Y_FairText_toFirstCommand.1 Y_FairText_toFirstCommand.2.1 Y_FairText_toFirstCommand.2.2.1 Y_FairText_toFirstCommand.2.2.2.1 ∈ zWd := zin 537 (by decide +kernel) rfl
theorem lk_FairText_toFirstCommand : zlk Y_FairText_toFirstCommand 0 := ⟨w_c_FairText_toFirstCommand, w_ini_FairText, by decide +kernel, by decide +kernel, by decide⟩
theorem w_ml_FairText_30 : Cond.methodLink "SirenFair$FairText" 30 Y_FairText_toFirstCommand.1 ∈ zWd := zin 534 (by decide +kernel) rfl
theorem w_im_FairText_toFirstCommand : Cond.instanceMethod Y_FairText_toFirstCommand.1 ∈ zWd := zin 535 (by decide +kernel) rfl
theorem w_sel_FairText_toFirstCommand : Cond.selects "SirenFair$FairText" Y_FairText_toFirstCommand.1 Y_FairText_toFirstCommand.1 ∈ zWd := zin 536 (by decide +kernel) rfl
theorem lkV_FairText_30 : zlkV "SirenFair$FairText" 30 Y_FairText_toFirstCommand 0 := ⟨lk_FairText_toFirstCommand, w_ml_FairText_30, w_im_FairText_toFirstCommand, w_sel_FairText_toFirstCommand⟩
theorem d_FairText_init_0 : decode Y_FairText_init.2.1 0 = .ok (.aload_n 0, 1) := by decide +kernel
theorem d_FairText_init_1 : decode Y_FairText_init.2.1 1 = .ok (.invokespecial 3, 3) := by decide +kernel
theorem d_FairText_init_4 : decode Y_FairText_init.2.1 4 = .ok (.aload_n 0, 1) := by decide +kernel
theorem d_FairText_init_5 : decode Y_FairText_init.2.1 5 = .ok (.bipush (120), 2) := by decide +kernel
theorem d_FairText_init_7 : decode Y_FairText_init.2.1 7 = .ok (.newarray .char, 2) := by decide +kernel
theorem d_FairText_init_9 : decode Y_FairText_init.2.1 9 = .ok (.putfield 11, 3) := by decide +kernel
theorem d_FairText_init_12 : decode Y_FairText_init.2.1 12 = .ok (.aload_n 0, 1) := by decide +kernel
theorem d_FairText_init_13 : decode Y_FairText_init.2.1 13 = .ok (.iconst (5), 1) := by decide +kernel
theorem d_FairText_init_14 : decode Y_FairText_init.2.1 14 = .ok (.newarray .int, 2) := by decide +kernel
theorem d_FairText_init_16 : decode Y_FairText_init.2.1 16 = .ok (.putfield 15, 3) := by decide +kernel
theorem d_FairText_init_19 : decode Y_FairText_init.2.1 19 = .ok (.return_, 1) := by decide +kernel
def f_FairText_init (z : zT) (D : zD) (a : Nat) : Option (zT × zD) := znew z D (.inl (1, 120)) (fun q1 z2 D3 => zputR z2 2 0 a q1 (fun z4 => znew z4 D3 (.inl (0, 5)) (fun q5 z6 D7 => zputR z6 2 4 a q5 (fun z8 => some (z8, D7)))))
set_option maxHeartbeats 4000000 in
set_option maxRecDepth 100000 in
theorem c_FairText_init (z : zT) (D : zD) (a : Nat) : zM Y_FairText_init 1 2 125 zqC (f_FairText_init z D a) [.ref a] z D := by
  refine zM_of (plainFor_of_name (by decide +kernel)) rfl (Nat.le_of_ble_eq_true rfl) (fun _ _ _ _ h => nomatch h.1) (fun K => ?_)
  unfold f_FairText_init
  refine z_aload_n (pc := 0) d_FairText_init_0 rfl 0 rfl ?_
  refine z_objInit (pc := 1) w_ml_FairText_3 w_oi1 w_oi2 (by decide) (Nat.le_of_ble_eq_true rfl) d_FairText_init_1 ?_
  refine z_aload_n (pc := 4) d_FairText_init_4 rfl 0 rfl ?_
  refine z_bipush (pc := 5) d_FairText_init_5 kb_120 ?_
  refine z_newC (pc := 7) (kc2 := 1) (ks2 := 5) w_ac_char (by decide) (by decide) (Nat.le_of_ble_eq_true rfl) (by decide) (by decide) d_FairText_init_7 (fun q1 z2 D3 => ?_)
  refine z_putR (pc := 9) fl_FairText_11 rfl (fun _ _ _ h => by cases h; rfl) (Or.inr ⟨_, rfl⟩) d_FairText_init_9 (fun z4 => ?_)
  refine z_aload_n (pc := 12) d_FairText_init_12 rfl 0 rfl ?_
  refine z_iconst (pc := 13) d_FairText_init_13 ki_5 ?_
  refine z_newI (pc := 14) (kc2 := 0) (ks2 := 0) w_ac_int (by decide) (by decide) (Nat.le_of_ble_eq_true rfl) (by decide) (by decide) d_FairText_init_14 (fun q5 z6 D7 => ?_)
  refine z_putR (pc := 16) fl_FairText_15 rfl (fun _ _ _ h => by cases h; rfl) (Or.inr ⟨_, rfl⟩) d_FairText_init_16 (fun z8 => ?_)
  exact z_cret (pc := 19) d_FairText_init_19 rfl
theorem d_FairText_add_0 : decode Y_FairText_add.2.1 0 = .ok (.aload_n 0, 1) := by decide +kernel
theorem d_FairText_add_1 : decode Y_FairText_add.2.1 1 = .ok (.getfield 19, 3) := by decide +kernel
theorem d_FairText_add_4 : decode Y_FairText_add.2.1 4 = .ok (.bipush (120), 2) := by decide +kernel
theorem d_FairText_add_6 : decode Y_FairText_add.2.1 6 = .ok (.if_icmp .ge (23), 3) := by decide +kernel
theorem d_FairText_add_9 : decode Y_FairText_add.2.1 9 = .ok (.aload_n 0, 1) := by decide +kernel
theorem d_FairText_add_10 : decode Y_FairText_add.2.1 10 = .ok (.getfield 11, 3) := by decide +kernel
theorem d_FairText_add_13 : decode Y_FairText_add.2.1 13 = .ok (.aload_n 0, 1) := by decide +kernel
theorem d_FairText_add_14 : decode Y_FairText_add.2.1 14 = .ok (.getfield 19, 3) := by decide +kernel
theorem d_FairText_add_17 : decode Y_FairText_add.2.1 17 = .ok (.iload_n 1, 1) := by decide +kernel
theorem d_FairText_add_18 : decode Y_FairText_add.2.1 18 = .ok (.castore, 1) := by decide +kernel
theorem d_FairText_add_19 : decode Y_FairText_add.2.1 19 = .ok (.aload_n 0, 1) := by decide +kernel
theorem d_FairText_add_20 : decode Y_FairText_add.2.1 20 = .ok (.dup, 1) := by decide +kernel
theorem d_FairText_add_21 : decode Y_FairText_add.2.1 21 = .ok (.getfield 19, 3) := by decide +kernel
theorem d_FairText_add_24 : decode Y_FairText_add.2.1 24 = .ok (.iconst (1), 1) := by decide +kernel
theorem d_FairText_add_25 : decode Y_FairText_add.2.1 25 = .ok (.iadd, 1) := by decide +kernel
theorem d_FairText_add_26 : decode Y_FairText_add.2.1 26 = .ok (.putfield 19, 3) := by decide +kernel
theorem d_FairText_add_29 : decode Y_FairText_add.2.1 29 = .ok (.aload_n 0, 1) := by decide +kernel
theorem d_FairText_add_30 : decode Y_FairText_add.2.1 30 = .ok (.getfield 19, 3) := by decide +kernel
theorem d_FairText_add_33 : decode Y_FairText_add.2.1 33 = .ok (.ireturn, 1) := by decide +kernel
def f_FairText_add (w : zW) (D : zD) (a : Nat) (x1 : Int32) : Option (Int32 × zD) := zjp (fun (D1 : zD) => zfld w D1 2 1 a (fun v2 => some (v2, D1))) (fun j29 => zfld w D 2 1 a (fun v3 => (if (120 : Int32) ≤ v3 then j29 D else zref w 2 0 a (fun p4 => zfld w D 2 1 a (fun v5 => zast w D 1 p4 v5 (vp_nar .char x1) (fun D6 => zfld w D6 2 1 a (fun v7 => zput w D6 2 1 a (v7 + (1 : Int32)) (fun D8 => j29 D8))))))))
set_option maxHeartbeats 4000000 in
set_option maxRecDepth 100000 in
theorem c_FairText_add (z : zT) (D : zD) (a : Nat) (x1 : Int32) : zM Y_FairText_add 1 0 0 (zqI z) (f_FairText_add z.2 D a x1) [.ref a, .int x1] z D := by
  refine zM_of (plainFor_of_name (by decide +kernel)) rfl (Nat.le_of_ble_eq_true rfl) (fun _ _ _ _ h => nomatch h.1) (fun K => ?_)
  unfold f_FairText_add
  refine z_jp (fun j29 : zD → Option (Int32 × zD) => ∀ (D1 : zD), zGO K Y_FairText_add 1 0 0 (zqI z) (j29  D1) 0 0 z D1 29 [(0, .ref a)] []) (fun  D1 => ?_) (fun j29 h29 => ?_)
  · refine z_aload_n (pc := 29) d_FairText_add_29 rfl 0 rfl ?_
    refine z_getI (pc := 30) fl_FairText_19 d_FairText_add_30 (fun v2 => ?_)
    exact z_iret (pc := 33) d_FairText_add_33 rfl
  · refine z_aload_n (pc := 0) d_FairText_add_0 rfl 0 rfl ?_
    refine z_getI (pc := 1) fl_FairText_19 d_FairText_add_1 (fun v3 => ?_)
    refine z_bipush (pc := 4) d_FairText_add_4 kb_120 ?_
    refine z_icmp_ge (pc := 6) (tgt := 29) d_FairText_add_6 (by decide) ?_ ?_
    · exact z_sub [0] rfl (h29 D)
    · refine z_aload_n (pc := 9) d_FairText_add_9 rfl 0 rfl ?_
      refine z_getR (pc := 10) fl_FairText_11 d_FairText_add_10 (fun p4 => ?_)
      refine z_aload_n (pc := 13) d_FairText_add_13 rfl 0 rfl ?_
      refine z_getI (pc := 14) fl_FairText_19 d_FairText_add_14 (fun v5 => ?_)
      refine z_iload_n (pc := 17) d_FairText_add_17 rfl 1 rfl ?_
      refine z_castore (pc := 18) d_FairText_add_18 (fun D6 => ?_)
      refine z_aload_n (pc := 19) d_FairText_add_19 rfl 0 rfl ?_
      refine z_dup (pc := 20) d_FairText_add_20 rfl ?_
      refine z_getI (pc := 21) fl_FairText_19 d_FairText_add_21 (fun v7 => ?_)
      refine z_iconst (pc := 24) d_FairText_add_24 ki_1 ?_
      refine z_iadd (pc := 25) d_FairText_add_25 ?_
      refine z_putI (pc := 26) fl_FairText_19 d_FairText_add_26 (fun D8 => ?_)
      exact z_sub [0] rfl (h29 D8)
theorem d_FairText_toFirstCommand_0 : decode Y_FairText_toFirstCommand.2.1 0 = .ok (.aload_n 0, 1) := by decide +kernel
theorem d_FairText_toFirstCommand_1 : decode Y_FairText_toFirstCommand.2.1 1 = .ok (.iconst (1), 1) := by decide +kernel
theorem d_FairText_toFirstCommand_2 : decode Y_FairText_toFirstCommand.2.1 2 = .ok (.putfield 23, 3) := by decide +kernel
theorem d_FairText_toFirstCommand_5 : decode Y_FairText_toFirstCommand.2.1 5 = .ok (.return_, 1) := by decide +kernel
def f_FairText_toFirstCommand (w : zW) (D : zD) (a : Nat) : Option (zD) := zput w D 2 2 a (1 : Int32) (fun D1 => some D1)
set_option maxHeartbeats 4000000 in
set_option maxRecDepth 100000 in
theorem c_FairText_toFirstCommand (z : zT) (D : zD) (a : Nat) : zM Y_FairText_toFirstCommand 1 0 0 (zqV z) (f_FairText_toFirstCommand z.2 D a) [.ref a] z D := by
  refine zM_of (plainFor_of_name (by decide +kernel)) rfl (Nat.le_of_ble_eq_true rfl) (fun _ _ _ _ h => nomatch h.1) (fun K => ?_)
  unfold f_FairText_toFirstCommand
  refine z_aload_n (pc := 0) d_FairText_toFirstCommand_0 rfl 0 rfl ?_
  refine z_iconst (pc := 1) d_FairText_toFirstCommand_1 ki_1 ?_
  refine z_putI (pc := 2) fl_FairText_23 d_FairText_toFirstCommand_2 (fun D1 => ?_)
  exact z_vret (pc := 5) d_FairText_toFirstCommand_5 rfl
theorem d_FairText_next_0 : decode Y_FairText_next.2.1 0 = .ok (.aload_n 0, 1) := by decide +kernel
theorem d_FairText_next_1 : decode Y_FairText_next.2.1 1 = .ok (.getfield 23, 3) := by decide +kernel
theorem d_FairText_next_4 : decode Y_FairText_next.2.1 4 = .ok (.ifCond .lt (23), 3) := by decide +kernel
theorem d_FairText_next_7 : decode Y_FairText_next.2.1 7 = .ok (.aload_n 0, 1) := by decide +kernel
theorem d_FairText_next_8 : decode Y_FairText_next.2.1 8 = .ok (.getfield 23, 3) := by decide +kernel
theorem d_FairText_next_11 : decode Y_FairText_next.2.1 11 = .ok (.aload_n 0, 1) := by decide +kernel
theorem d_FairText_next_12 : decode Y_FairText_next.2.1 12 = .ok (.getfield 19, 3) := by decide +kernel
theorem d_FairText_next_15 : decode Y_FairText_next.2.1 15 = .ok (.if_icmp .ge (12), 3) := by decide +kernel
theorem d_FairText_next_18 : decode Y_FairText_next.2.1 18 = .ok (.aload_n 0, 1) := by decide +kernel
theorem d_FairText_next_19 : decode Y_FairText_next.2.1 19 = .ok (.getfield 23, 3) := by decide +kernel
theorem d_FairText_next_22 : decode Y_FairText_next.2.1 22 = .ok (.bipush (120), 2) := by decide +kernel
theorem d_FairText_next_24 : decode Y_FairText_next.2.1 24 = .ok (.if_icmp .lt (5), 3) := by decide +kernel
theorem d_FairText_next_27 : decode Y_FairText_next.2.1 27 = .ok (.iconst (-1), 1) := by decide +kernel
theorem d_FairText_next_28 : decode Y_FairText_next.2.1 28 = .ok (.ireturn, 1) := by decide +kernel
theorem d_FairText_next_29 : decode Y_FairText_next.2.1 29 = .ok (.aload_n 0, 1) := by decide +kernel
theorem d_FairText_next_30 : decode Y_FairText_next.2.1 30 = .ok (.getfield 11, 3) := by decide +kernel
theorem d_FairText_next_33 : decode Y_FairText_next.2.1 33 = .ok (.aload_n 0, 1) := by decide +kernel
theorem d_FairText_next_34 : decode Y_FairText_next.2.1 34 = .ok (.getfield 23, 3) := by decide +kernel
theorem d_FairText_next_37 : decode Y_FairText_next.2.1 37 = .ok (.caload, 1) := by decide +kernel
theorem d_FairText_next_38 : decode Y_FairText_next.2.1 38 = .ok (.ireturn, 1) := by decide +kernel
def f_FairText_next (w : zW) (D : zD) (a : Nat) : Option (Int32 × zD) := zjp (fun (D1 : zD) => some ((-1 : Int32), D1)) (fun j27 => zfld w D 2 2 a (fun v2 => (if v2 < 0 then j27 D else zfld w D 2 2 a (fun v3 => zfld w D 2 1 a (fun v4 => (if v4 ≤ v3 then j27 D else zfld w D 2 2 a (fun v5 => (if v5 < (120 : Int32) then zref w 2 0 a (fun p6 => zfld w D 2 2 a (fun v7 => zald w D 1 p6 v7 (fun v8 => some (v8, D)))) else j27 D))))))))
set_option maxHeartbeats 4000000 in
set_option maxRecDepth 100000 in
theorem c_FairText_next (z : zT) (D : zD) (a : Nat) : zM Y_FairText_next 1 0 0 (zqI z) (f_FairText_next z.2 D a) [.ref a] z D := by
  refine zM_of (plainFor_of_name (by decide +kernel)) rfl (Nat.le_of_ble_eq_true rfl) (fun _ _ _ _ h => nomatch h.1) (fun K => ?_)
  unfold f_FairText_next
  refine z_jp (fun j27 : zD → Option (Int32 × zD) => ∀ (D1 : zD), zGO K Y_FairText_next 1 0 0 (zqI z) (j27  D1) 0 0 z D1 27 [] []) (fun  D1 => ?_) (fun j27 h27 => ?_)
  · refine z_iconst (pc := 27) d_FairText_next_27 ki_m1 ?_
    exact z_iret (pc := 28) d_FairText_next_28 rfl
  · refine z_aload_n (pc := 0) d_FairText_next_0 rfl 0 rfl ?_
    refine z_getI (pc := 1) fl_FairText_23 d_FairText_next_1 (fun v2 => ?_)
    refine z_if_lt (pc := 4) (tgt := 27) d_FairText_next_4 (by decide) ?_ ?_
    · exact z_sub [] rfl (h27 D)
    · refine z_aload_n (pc := 7) d_FairText_next_7 rfl 0 rfl ?_
      refine z_getI (pc := 8) fl_FairText_23 d_FairText_next_8 (fun v3 => ?_)
      refine z_aload_n (pc := 11) d_FairText_next_11 rfl 0 rfl ?_
      refine z_getI (pc := 12) fl_FairText_19 d_FairText_next_12 (fun v4 => ?_)
      refine z_icmp_ge (pc := 15) (tgt := 27) d_FairText_next_15 (by decide) ?_ ?_
      · exact z_sub [] rfl (h27 D)
      · refine z_aload_n (pc := 18) d_FairText_next_18 rfl 0 rfl ?_
        refine z_getI (pc := 19) fl_FairText_23 d_FairText_next_19 (fun v5 => ?_)
        refine z_bipush (pc := 22) d_FairText_next_22 kb_120 ?_
        refine z_icmp_lt (pc := 24) (tgt := 29) d_FairText_next_24 (by decide) ?_ ?_
        · refine z_aload_n (pc := 29) d_FairText_next_29 rfl 0 rfl ?_
          refine z_getR (pc := 30) fl_FairText_11 d_FairText_next_30 (fun p6 => ?_)
          refine z_aload_n (pc := 33) d_FairText_next_33 rfl 0 rfl ?_
          refine z_getI (pc := 34) fl_FairText_23 d_FairText_next_34 (fun v7 => ?_)
          refine z_caload (pc := 37) d_FairText_next_37 (fun v8 => ?_)
          exact z_iret (pc := 38) d_FairText_next_38 rfl
        · exact z_sub [] rfl (h27 D)
theorem d_FairText_isNext_0 : decode Y_FairText_isNext.2.1 0 = .ok (.aload_n 0, 1) := by decide +kernel
theorem d_FairText_isNext_1 : decode Y_FairText_isNext.2.1 1 = .ok (.invokevirtual 37, 3) := by decide +kernel
theorem d_FairText_isNext_4 : decode Y_FairText_isNext.2.1 4 = .ok (.iload_n 1, 1) := by decide +kernel
theorem d_FairText_isNext_5 : decode Y_FairText_isNext.2.1 5 = .ok (.if_icmp .ne (7), 3) := by decide +kernel
theorem d_FairText_isNext_8 : decode Y_FairText_isNext.2.1 8 = .ok (.iconst (1), 1) := by decide +kernel
theorem d_FairText_isNext_9 : decode Y_FairText_isNext.2.1 9 = .ok (.goto (4), 3) := by decide +kernel
theorem d_FairText_isNext_12 : decode Y_FairText_isNext.2.1 12 = .ok (.iconst (0), 1) := by decide +kernel
theorem d_FairText_isNext_13 : decode Y_FairText_isNext.2.1 13 = .ok (.ireturn, 1) := by decide +kernel
def f_FairText_isNext (w : zW) (D : zD) (a : Nat) (x1 : Int32) : Option (Int32 × zD) := zjp (fun (s0 : Int32) (D1 : zD) => zchk (s0 = 0 ∨ s0 = 1) (some (s0, D1))) (fun j13 => zobj w 2 a (zci (f_FairText_next w D a ) (fun v2 D3 => (if v2 = x1 then j13 (1 : Int32) D3 else j13 (0 : Int32) D3))))
set_option maxHeartbeats 4000000 in
set_option maxRecDepth 100000 in
theorem c_FairText_isNext (z : zT) (D : zD) (a : Nat) (x1 : Int32) : zM Y_FairText_isNext 2 0 0 (zqI z) (f_FairText_isNext z.2 D a x1) [.ref a, .int x1] z D := by
  refine zM_of (plainFor_of_name (by decide +kernel)) rfl (Nat.le_of_ble_eq_true rfl) (fun _ _ _ _ h => nomatch h.1) (fun K => ?_)
  unfold f_FairText_isNext
  refine z_jp (fun j13 : Int32 → zD → Option (Int32 × zD) => ∀ (s0 : Int32) (D1 : zD), zGO K Y_FairText_isNext 2 0 0 (zqI z) (j13 s0 D1) 0 0 z D1 13 [] [.int s0]) (fun s0 D1 => ?_) (fun j13 h13 => ?_)
  · exact z_zret (pc := 13) d_FairText_isNext_13 rfl
  · refine z_aload_n (pc := 0) d_FairText_isNext_0 rfl 0 rfl ?_
    refine z_callVi (pc := 1) [] lkV_FairText_37 rfl (c_FairText_next z D a ) (by decide) rfl rfl (Nat.le_of_ble_eq_true rfl) d_FairText_isNext_1 (fun v2 D3 => ?_)
    refine z_iload_n (pc := 4) d_FairText_isNext_4 rfl 1 rfl ?_
    refine z_icmp_ne (pc := 5) (tgt := 12) d_FairText_isNext_5 (by decide) ?_ ?_
    · refine z_iconst (pc := 8) d_FairText_isNext_8 ki_1 ?_
      refine z_goto (pc := 9) (tgt := 13) d_FairText_isNext_9 (by decide) ?_
      exact z_sub [] rfl (h13 (1 : Int32) D3)
    · refine z_iconst (pc := 12) d_FairText_isNext_12 ki_0 ?_
      exact z_sub [] rfl (h13 (0 : Int32) D3)
theorem d_FairText_nextDigit_0 : decode Y_FairText_nextDigit.2.1 0 = .ok (.aload_n 0, 1) := by decide +kernel
theorem d_FairText_nextDigit_1 : decode Y_FairText_nextDigit.2.1 1 = .ok (.invokevirtual 37, 3) := by decide +kernel
theorem d_FairText_nextDigit_4 : decode Y_FairText_nextDigit.2.1 4 = .ok (.bipush (48), 2) := by decide +kernel
theorem d_FairText_nextDigit_6 : decode Y_FairText_nextDigit.2.1 6 = .ok (.isub, 1) := by decide +kernel
theorem d_FairText_nextDigit_7 : decode Y_FairText_nextDigit.2.1 7 = .ok (.istore_n 3, 1) := by decide +kernel
theorem d_FairText_nextDigit_8 : decode Y_FairText_nextDigit.2.1 8 = .ok (.iload_n 3, 1) := by decide +kernel
theorem d_FairText_nextDigit_9 : decode Y_FairText_nextDigit.2.1 9 = .ok (.ifCond .lt (23), 3) := by decide +kernel
theorem d_FairText_nextDigit_12 : decode Y_FairText_nextDigit.2.1 12 = .ok (.iload_n 3, 1) := by decide +kernel
theorem d_FairText_nextDigit_13 : decode Y_FairText_nextDigit.2.1 13 = .ok (.bipush (9), 2) := by decide +kernel
theorem d_FairText_nextDigit_15 : decode Y_FairText_nextDigit.2.1 15 = .ok (.if_icmp .gt (17), 3) := by decide +kernel
theorem d_FairText_nextDigit_18 : decode Y_FairText_nextDigit.2.1 18 = .ok (.iload_n 3, 1) := by decide +kernel
theorem d_FairText_nextDigit_19 : decode Y_FairText_nextDigit.2.1 19 = .ok (.iload_n 1, 1) := by decide +kernel
theorem d_FairText_nextDigit_20 : decode Y_FairText_nextDigit.2.1 20 = .ok (.if_icmp .lt (12), 3) := by decide +kernel
theorem d_FairText_nextDigit_23 : decode Y_FairText_nextDigit.2.1 23 = .ok (.iload_n 3, 1) := by decide +kernel
theorem d_FairText_nextDigit_24 : decode Y_FairText_nextDigit.2.1 24 = .ok (.iload_n 2, 1) := by decide +kernel
theorem d_FairText_nextDigit_25 : decode Y_FairText_nextDigit.2.1 25 = .ok (.if_icmp .gt (7), 3) := by decide +kernel
theorem d_FairText_nextDigit_28 : decode Y_FairText_nextDigit.2.1 28 = .ok (.iload_n 3, 1) := by decide +kernel
theorem d_FairText_nextDigit_29 : decode Y_FairText_nextDigit.2.1 29 = .ok (.goto (4), 3) := by decide +kernel
theorem d_FairText_nextDigit_32 : decode Y_FairText_nextDigit.2.1 32 = .ok (.iconst (-1), 1) := by decide +kernel
theorem d_FairText_nextDigit_33 : decode Y_FairText_nextDigit.2.1 33 = .ok (.ireturn, 1) := by decide +kernel
def f_FairText_nextDigit (w : zW) (D : zD) (a : Nat) (x1 : Int32) (x2 : Int32) : Option (Int32 × zD) := zjp (fun (s0 : Int32) (D1 : zD) => some (s0, D1)) (fun j33 => zjp (fun (D2 : zD) => j33 (-1 : Int32) D2) (fun j32 => zobj w 2 a (zci (f_FairText_next w D a ) (fun v3 D4 => zlet (v3 - (48 : Int32)) (fun v5 => (if v5 < 0 then j32 D4 else (if (9 : Int32) < v5 then j32 D4 else (if v5 < x1 then j32 D4 else (if x2 < v5 then j32 D4 else j33 v5 D4)))))))))
set_option maxHeartbeats 4000000 in
set_option maxRecDepth 100000 in
theorem c_FairText_nextDigit (z : zT) (D : zD) (a : Nat) (x1 : Int32) (x2 : Int32) : zM Y_FairText_nextDigit 2 0 0 (zqI z) (f_FairText_nextDigit z.2 D a x1 x2) [.ref a, .int x1, .int x2] z D := by
  refine zM_of (plainFor_of_name (by decide +kernel)) rfl (Nat.le_of_ble_eq_true rfl) (fun _ _ _ _ h => nomatch h.1) (fun K => ?_)
  unfold f_FairText_nextDigit
  refine z_jp (fun j33 : Int32 → zD → Option (Int32 × zD) => ∀ (s0 : Int32) (D1 : zD), zGO K Y_FairText_nextDigit 2 0 0 (zqI z) (j33 s0 D1) 0 0 z D1 33 [] [.int s0]) (fun s0 D1 => ?_) (fun j33 h33 => ?_)
  · exact z_iret (pc := 33) d_FairText_nextDigit_33 rfl
  · refine z_jp (fun j32 : zD → Option (Int32 × zD) => ∀ (D2 : zD), zGO K Y_FairText_nextDigit 2 0 0 (zqI z) (j32  D2) 0 0 z D2 32 [] []) (fun  D2 => ?_) (fun j32 h32 => ?_)
    · refine z_iconst (pc := 32) d_FairText_nextDigit_32 ki_m1 ?_
      exact z_sub [] rfl (h33 (-1 : Int32) D2)
    · refine z_aload_n (pc := 0) d_FairText_nextDigit_0 rfl 0 rfl ?_
      refine z_callVi (pc := 1) [] lkV_FairText_37 rfl (c_FairText_next z D a ) (by decide) rfl rfl (Nat.le_of_ble_eq_true rfl) d_FairText_nextDigit_1 (fun v3 D4 => ?_)
      refine z_bipush (pc := 4) d_FairText_nextDigit_4 kb_48 ?_
      refine z_isub (pc := 6) d_FairText_nextDigit_6 ?_
      refine z_leti (fun v5 => ?_)
      refine z_istore_n (pc := 7) d_FairText_nextDigit_7 rfl (by decide) (lv' := [(3, .int v5), (0, .ref a), (1, .int x1), (2, .int x2)]) rfl ?_
      refine z_iload_n (pc := 8) d_FairText_nextDigit_8 rfl 0 rfl ?_
      refine z_if_lt (pc := 9) (tgt := 32) d_FairText_nextDigit_9 (by decide) ?_ ?_
      · exact z_sub [] rfl (h32 D4)
      · refine z_iload_n (pc := 12) d_FairText_nextDigit_12 rfl 0 rfl ?_
        refine z_bipush (pc := 13) d_FairText_nextDigit_13 kb_9 ?_
        refine z_icmp_gt (pc := 15) (tgt := 32) d_FairText_nextDigit_15 (by decide) ?_ ?_
        · exact z_sub [] rfl (h32 D4)
        · refine z_iload_n (pc := 18) d_FairText_nextDigit_18 rfl 0 rfl ?_
          refine z_iload_n (pc := 19) d_FairText_nextDigit_19 rfl 2 rfl ?_
          refine z_icmp_lt (pc := 20) (tgt := 32) d_FairText_nextDigit_20 (by decide) ?_ ?_
          · exact z_sub [] rfl (h32 D4)
          · refine z_iload_n (pc := 23) d_FairText_nextDigit_23 rfl 0 rfl ?_
            refine z_iload_n (pc := 24) d_FairText_nextDigit_24 rfl 3 rfl ?_
            refine z_icmp_gt (pc := 25) (tgt := 32) d_FairText_nextDigit_25 (by decide) ?_ ?_
            · exact z_sub [] rfl (h32 D4)
            · refine z_iload_n (pc := 28) d_FairText_nextDigit_28 rfl 0 rfl ?_
              refine z_goto (pc := 29) (tgt := 33) d_FairText_nextDigit_29 (by decide) ?_
              exact z_sub [] rfl (h33 v5 D4)
theorem d_FairText_readOne_0 : decode Y_FairText_readOne.2.1 0 = .ok (.aload_n 0, 1) := by decide +kernel
theorem d_FairText_readOne_1 : decode Y_FairText_readOne.2.1 1 = .ok (.iload_n 2, 1) := by decide +kernel
theorem d_FairText_readOne_2 : decode Y_FairText_readOne.2.1 2 = .ok (.iload_n 3, 1) := by decide +kernel
theorem d_FairText_readOne_3 : decode Y_FairText_readOne.2.1 3 = .ok (.invokevirtual 55, 3) := by decide +kernel
theorem d_FairText_readOne_6 : decode Y_FairText_readOne.2.1 6 = .ok (.istore 4, 2) := by decide +kernel
theorem d_FairText_readOne_8 : decode Y_FairText_readOne.2.1 8 = .ok (.iload 4, 2) := by decide +kernel
theorem d_FairText_readOne_10 : decode Y_FairText_readOne.2.1 10 = .ok (.iconst (-1), 1) := by decide +kernel
theorem d_FairText_readOne_11 : decode Y_FairText_readOne.2.1 11 = .ok (.if_icmp .eq (12), 3) := by decide +kernel
theorem d_FairText_readOne_14 : decode Y_FairText_readOne.2.1 14 = .ok (.iload_n 1, 1) := by decide +kernel
theorem d_FairText_readOne_15 : decode Y_FairText_readOne.2.1 15 = .ok (.ifCond .lt (8), 3) := by decide +kernel
theorem d_FairText_readOne_18 : decode Y_FairText_readOne.2.1 18 = .ok (.iload_n 1, 1) := by decide +kernel
theorem d_FairText_readOne_19 : decode Y_FairText_readOne.2.1 19 = .ok (.iconst (5), 1) := by decide +kernel
theorem d_FairText_readOne_20 : decode Y_FairText_readOne.2.1 20 = .ok (.if_icmp .lt (5), 3) := by decide +kernel
theorem d_FairText_readOne_23 : decode Y_FairText_readOne.2.1 23 = .ok (.iconst (0), 1) := by decide +kernel
theorem d_FairText_readOne_24 : decode Y_FairText_readOne.2.1 24 = .ok (.ireturn, 1) := by decide +kernel
theorem d_FairText_readOne_25 : decode Y_FairText_readOne.2.1 25 = .ok (.aload_n 0, 1) := by decide +kernel
theorem d_FairText_readOne_26 : decode Y_FairText_readOne.2.1 26 = .ok (.getfield 15, 3) := by decide +kernel
theorem d_FairText_readOne_29 : decode Y_FairText_readOne.2.1 29 = .ok (.iload_n 1, 1) := by decide +kernel
theorem d_FairText_readOne_30 : decode Y_FairText_readOne.2.1 30 = .ok (.iload 4, 2) := by decide +kernel
theorem d_FairText_readOne_32 : decode Y_FairText_readOne.2.1 32 = .ok (.iastore, 1) := by decide +kernel
theorem d_FairText_readOne_33 : decode Y_FairText_readOne.2.1 33 = .ok (.aload_n 0, 1) := by decide +kernel
theorem d_FairText_readOne_34 : decode Y_FairText_readOne.2.1 34 = .ok (.dup, 1) := by decide +kernel
theorem d_FairText_readOne_35 : decode Y_FairText_readOne.2.1 35 = .ok (.getfield 23, 3) := by decide +kernel
theorem d_FairText_readOne_38 : decode Y_FairText_readOne.2.1 38 = .ok (.iconst (1), 1) := by decide +kernel
theorem d_FairText_readOne_39 : decode Y_FairText_readOne.2.1 39 = .ok (.iadd, 1) := by decide +kernel
theorem d_FairText_readOne_40 : decode Y_FairText_readOne.2.1 40 = .ok (.putfield 23, 3) := by decide +kernel
theorem d_FairText_readOne_43 : decode Y_FairText_readOne.2.1 43 = .ok (.iconst (1), 1) := by decide +kernel
theorem d_FairText_readOne_44 : decode Y_FairText_readOne.2.1 44 = .ok (.ireturn, 1) := by decide +kernel
def f_FairText_readOne (w : zW) (D : zD) (a : Nat) (x1 : Int32) (x2 : Int32) (x3 : Int32) : Option (Int32 × zD) := zjp (fun (D1 : zD) => some ((0 : Int32), D1)) (fun j23 => zobj w 2 a (zci (f_FairText_nextDigit w D a x2 x3) (fun v2 D3 => (if v2 = (-1 : Int32) then j23 D3 else (if x1 < 0 then j23 D3 else (if x1 < (5 : Int32) then zref w 2 4 a (fun p4 => zast w D3 0 p4 x1 v2 (fun D5 => zfld w D5 2 2 a (fun v6 => zput w D5 2 2 a (v6 + (1 : Int32)) (fun D7 => some ((1 : Int32), D7))))) else j23 D3))))))
set_option maxHeartbeats 4000000 in
set_option maxRecDepth 100000 in
theorem c_FairText_readOne (z : zT) (D : zD) (a : Nat) (x1 : Int32) (x2 : Int32) (x3 : Int32) : zM Y_FairText_readOne 3 0 0 (zqI z) (f_FairText_readOne z.2 D a x1 x2 x3) [.ref a, .int x1, .int x2, .int x3] z D := by
  refine zM_of (plainFor_of_name (by decide +kernel)) rfl (Nat.le_of_ble_eq_true rfl) (fun _ _ _ _ h => nomatch h.1) (fun K => ?_)
  unfold f_FairText_readOne
  refine z_jp (fun j23 : zD → Option (Int32 × zD) => ∀ (D1 : zD), zGO K Y_FairText_readOne 3 0 0 (zqI z) (j23  D1) 0 0 z D1 23 [] []) (fun  D1 => ?_) (fun j23 h23 => ?_)
  · refine z_iconst (pc := 23) d_FairText_readOne_23 ki_0 ?_
    exact z_zretK (pc := 24) d_FairText_readOne_24 rfl (by decide)
  · refine z_aload_n (pc := 0) d_FairText_readOne_0 rfl 0 rfl ?_
    refine z_iload_n (pc := 1) d_FairText_readOne_1 rfl 2 rfl ?_
    refine z_iload_n (pc := 2) d_FairText_readOne_2 rfl 3 rfl ?_
    refine z_callVi (pc := 3) [.int x2, .int x3] lkV_FairText_55 rfl (c_FairText_nextDigit z D a x2 x3) (by decide) rfl rfl (Nat.le_of_ble_eq_true rfl) d_FairText_readOne_3 (fun v2 D3 => ?_)
    refine z_istore (pc := 6) d_FairText_readOne_6 (by decide) (lv' := [(4, .int v2), (0, .ref a), (1, .int x1), (2, .int x2), (3, .int x3)]) rfl ?_
    refine z_iload (pc := 8) d_FairText_readOne_8 0 rfl ?_
    refine z_iconst (pc := 10) d_FairText_readOne_10 ki_m1 ?_
    refine z_icmp_eq (pc := 11) (tgt := 23) d_FairText_readOne_11 (by decide) ?_ ?_
    · exact z_sub [] rfl (h23 D3)
    · refine z_iload_n (pc := 14) d_FairText_readOne_14 rfl 2 rfl ?_
      refine z_if_lt (pc := 15) (tgt := 23) d_FairText_readOne_15 (by decide) ?_ ?_
      · exact z_sub [] rfl (h23 D3)
      · refine z_iload_n (pc := 18) d_FairText_readOne_18 rfl 2 rfl ?_
        refine z_iconst (pc := 19) d_FairText_readOne_19 ki_5 ?_
        refine z_icmp_lt (pc := 20) (tgt := 25) d_FairText_readOne_20 (by decide) ?_ ?_
        · refine z_aload_n (pc := 25) d_FairText_readOne_25 rfl 1 rfl ?_
          refine z_getR (pc := 26) fl_FairText_15 d_FairText_readOne_26 (fun p4 => ?_)
          refine z_iload_n (pc := 29) d_FairText_readOne_29 rfl 2 rfl ?_
          refine z_iload (pc := 30) d_FairText_readOne_30 0 rfl ?_
          refine z_iastore (pc := 32) d_FairText_readOne_32 (fun D5 => ?_)
          refine z_aload_n (pc := 33) d_FairText_readOne_33 rfl 1 rfl ?_
          refine z_dup (pc := 34) d_FairText_readOne_34 rfl ?_
          refine z_getI (pc := 35) fl_FairText_23 d_FairText_readOne_35 (fun v6 => ?_)
          refine z_iconst (pc := 38) d_FairText_readOne_38 ki_1 ?_
          refine z_iadd (pc := 39) d_FairText_readOne_39 ?_
          refine z_putI (pc := 40) fl_FairText_23 d_FairText_readOne_40 (fun D7 => ?_)
          refine z_iconst (pc := 43) d_FairText_readOne_43 ki_1 ?_
          exact z_zretK (pc := 44) d_FairText_readOne_44 rfl (by decide)
        · exact z_sub [] rfl (h23 D3)
theorem d_FairText_readTwo_0 : decode Y_FairText_readTwo.2.1 0 = .ok (.aload_n 0, 1) := by decide +kernel
theorem d_FairText_readTwo_1 : decode Y_FairText_readTwo.2.1 1 = .ok (.iload_n 2, 1) := by decide +kernel
theorem d_FairText_readTwo_2 : decode Y_FairText_readTwo.2.1 2 = .ok (.bipush (10), 2) := by decide +kernel
theorem d_FairText_readTwo_4 : decode Y_FairText_readTwo.2.1 4 = .ok (.idiv, 1) := by decide +kernel
theorem d_FairText_readTwo_5 : decode Y_FairText_readTwo.2.1 5 = .ok (.iload_n 3, 1) := by decide +kernel
theorem d_FairText_readTwo_6 : decode Y_FairText_readTwo.2.1 6 = .ok (.bipush (10), 2) := by decide +kernel
theorem d_FairText_readTwo_8 : decode Y_FairText_readTwo.2.1 8 = .ok (.idiv, 1) := by decide +kernel
theorem d_FairText_readTwo_9 : decode Y_FairText_readTwo.2.1 9 = .ok (.invokevirtual 55, 3) := by decide +kernel
theorem d_FairText_readTwo_12 : decode Y_FairText_readTwo.2.1 12 = .ok (.istore 4, 2) := by decide +kernel
theorem d_FairText_readTwo_14 : decode Y_FairText_readTwo.2.1 14 = .ok (.iload 4, 2) := by decide +kernel
theorem d_FairText_readTwo_16 : decode Y_FairText_readTwo.2.1 16 = .ok (.iconst (-1), 1) := by decide +kernel
theorem d_FairText_readTwo_17 : decode Y_FairText_readTwo.2.1 17 = .ok (.if_icmp .eq (12), 3) := by decide +kernel
theorem d_FairText_readTwo_20 : decode Y_FairText_readTwo.2.1 20 = .ok (.iload_n 1, 1) := by decide +kernel
theorem d_FairText_readTwo_21 : decode Y_FairText_readTwo.2.1 21 = .ok (.ifCond .lt (8), 3) := by decide +kernel
theorem d_FairText_readTwo_24 : decode Y_FairText_readTwo.2.1 24 = .ok (.iload_n 1, 1) := by decide +kernel
theorem d_FairText_readTwo_25 : decode Y_FairText_readTwo.2.1 25 = .ok (.iconst (5), 1) := by decide +kernel
theorem d_FairText_readTwo_26 : decode Y_FairText_readTwo.2.1 26 = .ok (.if_icmp .lt (5), 3) := by decide +kernel
theorem d_FairText_readTwo_29 : decode Y_FairText_readTwo.2.1 29 = .ok (.iconst (0), 1) := by decide +kernel
theorem d_FairText_readTwo_30 : decode Y_FairText_readTwo.2.1 30 = .ok (.ireturn, 1) := by decide +kernel
theorem d_FairText_readTwo_31 : decode Y_FairText_readTwo.2.1 31 = .ok (.aload_n 0, 1) := by decide +kernel
theorem d_FairText_readTwo_32 : decode Y_FairText_readTwo.2.1 32 = .ok (.dup, 1) := by decide +kernel
theorem d_FairText_readTwo_33 : decode Y_FairText_readTwo.2.1 33 = .ok (.getfield 23, 3) := by decide +kernel
theorem d_FairText_readTwo_36 : decode Y_FairText_readTwo.2.1 36 = .ok (.iconst (1), 1) := by decide +kernel
theorem d_FairText_readTwo_37 : decode Y_FairText_readTwo.2.1 37 = .ok (.iadd, 1) := by decide +kernel
theorem d_FairText_readTwo_38 : decode Y_FairText_readTwo.2.1 38 = .ok (.putfield 23, 3) := by decide +kernel
theorem d_FairText_readTwo_41 : decode Y_FairText_readTwo.2.1 41 = .ok (.aload_n 0, 1) := by decide +kernel
theorem d_FairText_readTwo_42 : decode Y_FairText_readTwo.2.1 42 = .ok (.iload_n 2, 1) := by decide +kernel
theorem d_FairText_readTwo_43 : decode Y_FairText_readTwo.2.1 43 = .ok (.bipush (10), 2) := by decide +kernel
theorem d_FairText_readTwo_45 : decode Y_FairText_readTwo.2.1 45 = .ok (.iload 4, 2) := by decide +kernel
theorem d_FairText_readTwo_47 : decode Y_FairText_readTwo.2.1 47 = .ok (.imul, 1) := by decide +kernel
theorem d_FairText_readTwo_48 : decode Y_FairText_readTwo.2.1 48 = .ok (.isub, 1) := by decide +kernel
theorem d_FairText_readTwo_49 : decode Y_FairText_readTwo.2.1 49 = .ok (.iload_n 3, 1) := by decide +kernel
theorem d_FairText_readTwo_50 : decode Y_FairText_readTwo.2.1 50 = .ok (.bipush (10), 2) := by decide +kernel
theorem d_FairText_readTwo_52 : decode Y_FairText_readTwo.2.1 52 = .ok (.iload 4, 2) := by decide +kernel
theorem d_FairText_readTwo_54 : decode Y_FairText_readTwo.2.1 54 = .ok (.imul, 1) := by decide +kernel
theorem d_FairText_readTwo_55 : decode Y_FairText_readTwo.2.1 55 = .ok (.isub, 1) := by decide +kernel
theorem d_FairText_readTwo_56 : decode Y_FairText_readTwo.2.1 56 = .ok (.invokevirtual 55, 3) := by decide +kernel
theorem d_FairText_readTwo_59 : decode Y_FairText_readTwo.2.1 59 = .ok (.istore 5, 2) := by decide +kernel
theorem d_FairText_readTwo_61 : decode Y_FairText_readTwo.2.1 61 = .ok (.iload 5, 2) := by decide +kernel
theorem d_FairText_readTwo_63 : decode Y_FairText_readTwo.2.1 63 = .ok (.iconst (-1), 1) := by decide +kernel
theorem d_FairText_readTwo_64 : decode Y_FairText_readTwo.2.1 64 = .ok (.if_icmp .ne (5), 3) := by decide +kernel
theorem d_FairText_readTwo_67 : decode Y_FairText_readTwo.2.1 67 = .ok (.iconst (0), 1) := by decide +kernel
theorem d_FairText_readTwo_68 : decode Y_FairText_readTwo.2.1 68 = .ok (.ireturn, 1) := by decide +kernel
theorem d_FairText_readTwo_69 : decode Y_FairText_readTwo.2.1 69 = .ok (.aload_n 0, 1) := by decide +kernel
theorem d_FairText_readTwo_70 : decode Y_FairText_readTwo.2.1 70 = .ok (.getfield 15, 3) := by decide +kernel
theorem d_FairText_readTwo_73 : decode Y_FairText_readTwo.2.1 73 = .ok (.iload_n 1, 1) := by decide +kernel
theorem d_FairText_readTwo_74 : decode Y_FairText_readTwo.2.1 74 = .ok (.bipush (10), 2) := by decide +kernel
theorem d_FairText_readTwo_76 : decode Y_FairText_readTwo.2.1 76 = .ok (.iload 4, 2) := by decide +kernel
theorem d_FairText_readTwo_78 : decode Y_FairText_readTwo.2.1 78 = .ok (.imul, 1) := by decide +kernel
theorem d_FairText_readTwo_79 : decode Y_FairText_readTwo.2.1 79 = .ok (.iload 5, 2) := by decide +kernel
theorem d_FairText_readTwo_81 : decode Y_FairText_readTwo.2.1 81 = .ok (.iadd, 1) := by decide +kernel
theorem d_FairText_readTwo_82 : decode Y_FairText_readTwo.2.1 82 = .ok (.iastore, 1) := by decide +kernel
theorem d_FairText_readTwo_83 : decode Y_FairText_readTwo.2.1 83 = .ok (.aload_n 0, 1) := by decide +kernel
theorem d_FairText_readTwo_84 : decode Y_FairText_readTwo.2.1 84 = .ok (.dup, 1) := by decide +kernel
theorem d_FairText_readTwo_85 : decode Y_FairText_readTwo.2.1 85 = .ok (.getfield 23, 3) := by decide +kernel
theorem d_FairText_readTwo_88 : decode Y_FairText_readTwo.2.1 88 = .ok (.iconst (1), 1) := by decide +kernel
theorem d_FairText_readTwo_89 : decode Y_FairText_readTwo.2.1 89 = .ok (.iadd, 1) := by decide +kernel
theorem d_FairText_readTwo_90 : decode Y_FairText_readTwo.2.1 90 = .ok (.putfield 23, 3) := by decide +kernel
theorem d_FairText_readTwo_93 : decode Y_FairText_readTwo.2.1 93 = .ok (.iconst (1), 1) := by decide +kernel
theorem d_FairText_readTwo_94 : decode Y_FairText_readTwo.2.1 94 = .ok (.ireturn, 1) := by decide +kernel
def f_FairText_readTwo (w : zW) (D : zD) (a : Nat) (x1 : Int32) (x2 : Int32) (x3 : Int32) : Option (Int32 × zD) := zjp (fun (D1 : zD) => some ((0 : Int32), D1)) (fun j29 => zobj w 2 a (zci (f_FairText_nextDigit w D a (x2 / (10 : Int32)) (x3 / (10 : Int32))) (fun v2 D3 => (if v2 = (-1 : Int32) then j29 D3 else (if x1 < 0 then j29 D3 else (if x1 < (5 : Int32) then zfld w D3 2 2 a (fun v4 => zput w D3 2 2 a (v4 + (1 : Int32)) (fun D5 => zobj w 2 a (zci (f_FairText_nextDigit w D5 a (x2 - ((10 : Int32) * v2)) (x3 - ((10 : Int32) * v2))) (fun v6 D7 => (if v6 = (-1 : Int32) then some ((0 : Int32), D7) else zref w 2 4 a (fun p8 => zast w D7 0 p8 x1 (((10 : Int32) * v2) + v6) (fun D9 => zfld w D9 2 2 a (fun v10 => zput w D9 2 2 a (v10 + (1 : Int32)) (fun D11 => some ((1 : Int32), D11)))))))))) else j29 D3))))))
set_option maxHeartbeats 4000000 in
set_option maxRecDepth 100000 in
theorem c_FairText_readTwo (z : zT) (D : zD) (a : Nat) (x1 : Int32) (x2 : Int32) (x3 : Int32) : zM Y_FairText_readTwo 3 0 0 (zqI z) (f_FairText_readTwo z.2 D a x1 x2 x3) [.ref a, .int x1, .int x2, .int x3] z D := by
  refine zM_of (plainFor_of_name (by decide +kernel)) rfl (Nat.le_of_ble_eq_true rfl) (fun _ _ _ _ h => nomatch h.1) (fun K => ?_)
  unfold f_FairText_readTwo
  refine z_jp (fun j29 : zD → Option (Int32 × zD) => ∀ (D1 : zD), zGO K Y_FairText_readTwo 3 0 0 (zqI z) (j29  D1) 0 0 z D1 29 [] []) (fun  D1 => ?_) (fun j29 h29 => ?_)
  · refine z_iconst (pc := 29) d_FairText_readTwo_29 ki_0 ?_
    exact z_zretK (pc := 30) d_FairText_readTwo_30 rfl (by decide)
  · refine z_aload_n (pc := 0) d_FairText_readTwo_0 rfl 0 rfl ?_
    refine z_iload_n (pc := 1) d_FairText_readTwo_1 rfl 2 rfl ?_
    refine z_bipush (pc := 2) d_FairText_readTwo_2 kb_10 ?_
    refine z_idivK (pc := 4) d_FairText_readTwo_4 (by decide) ?_
    refine z_iload_n (pc := 5) d_FairText_readTwo_5 rfl 3 rfl ?_
    refine z_bipush (pc := 6) d_FairText_readTwo_6 kb_10 ?_
    refine z_idivK (pc := 8) d_FairText_readTwo_8 (by decide) ?_
    refine z_callVi (pc := 9) [.int (x2 / (10 : Int32)), .int (x3 / (10 : Int32))] lkV_FairText_55 rfl (c_FairText_nextDigit z D a (x2 / (10 : Int32)) (x3 / (10 : Int32))) (by decide) rfl rfl (Nat.le_of_ble_eq_true rfl) d_FairText_readTwo_9 (fun v2 D3 => ?_)
    refine z_istore (pc := 12) d_FairText_readTwo_12 (by decide) (lv' := [(4, .int v2), (0, .ref a), (1, .int x1), (2, .int x2), (3, .int x3)]) rfl ?_
    refine z_iload (pc := 14) d_FairText_readTwo_14 0 rfl ?_
    refine z_iconst (pc := 16) d_FairText_readTwo_16 ki_m1 ?_
    refine z_icmp_eq (pc := 17) (tgt := 29) d_FairText_readTwo_17 (by decide) ?_ ?_
    · exact z_sub [] rfl (h29 D3)
    · refine z_iload_n (pc := 20) d_FairText_readTwo_20 rfl 2 rfl ?_
      refine z_if_lt (pc := 21) (tgt := 29) d_FairText_readTwo_21 (by decide) ?_ ?_
      · exact z_sub [] rfl (h29 D3)
      · refine z_iload_n (pc := 24) d_FairText_readTwo_24 rfl 2 rfl ?_
        refine z_iconst (pc := 25) d_FairText_readTwo_25 ki_5 ?_
        refine z_icmp_lt (pc := 26) (tgt := 31) d_FairText_readTwo_26 (by decide) ?_ ?_
        · refine z_aload_n (pc := 31) d_FairText_readTwo_31 rfl 1 rfl ?_
          refine z_dup (pc := 32) d_FairText_readTwo_32 rfl ?_
          refine z_getI (pc := 33) fl_FairText_23 d_FairText_readTwo_33 (fun v4 => ?_)
          refine z_iconst (pc := 36) d_FairText_readTwo_36 ki_1 ?_
          refine z_iadd (pc := 37) d_FairText_readTwo_37 ?_
          refine z_putI (pc := 38) fl_FairText_23 d_FairText_readTwo_38 (fun D5 => ?_)
          refine z_aload_n (pc := 41) d_FairText_readTwo_41 rfl 1 rfl ?_
          refine z_iload_n (pc := 42) d_FairText_readTwo_42 rfl 3 rfl ?_
          refine z_bipush (pc := 43) d_FairText_readTwo_43 kb_10 ?_
          refine z_iload (pc := 45) d_FairText_readTwo_45 0 rfl ?_
          refine z_imul (pc := 47) d_FairText_readTwo_47 ?_
          refine z_isub (pc := 48) d_FairText_readTwo_48 ?_
          refine z_iload_n (pc := 49) d_FairText_readTwo_49 rfl 4 rfl ?_
          refine z_bipush (pc := 50) d_FairText_readTwo_50 kb_10 ?_
          refine z_iload (pc := 52) d_FairText_readTwo_52 0 rfl ?_
          refine z_imul (pc := 54) d_FairText_readTwo_54 ?_
          refine z_isub (pc := 55) d_FairText_readTwo_55 ?_
          refine z_callVi (pc := 56) [.int (x2 - ((10 : Int32) * v2)), .int (x3 - ((10 : Int32) * v2))] lkV_FairText_55 rfl (c_FairText_nextDigit z D5 a (x2 - ((10 : Int32) * v2)) (x3 - ((10 : Int32) * v2))) (by decide) rfl rfl (Nat.le_of_ble_eq_true rfl) d_FairText_readTwo_56 (fun v6 D7 => ?_)
          refine z_istore (pc := 59) d_FairText_readTwo_59 (by decide) (lv' := [(5, .int v6), (4, .int v2), (0, .ref a), (1, .int x1), (2, .int x2), (3, .int x3)]) rfl ?_
          refine z_iload (pc := 61) d_FairText_readTwo_61 0 rfl ?_
          refine z_iconst (pc := 63) d_FairText_readTwo_63 ki_m1 ?_
          refine z_icmp_ne (pc := 64) (tgt := 69) d_FairText_readTwo_64 (by decide) ?_ ?_
          · refine z_iconst (pc := 67) d_FairText_readTwo_67 ki_0 ?_
            exact z_zretK (pc := 68) d_FairText_readTwo_68 rfl (by decide)
          · refine z_aload_n (pc := 69) d_FairText_readTwo_69 rfl 2 rfl ?_
            refine z_getR (pc := 70) fl_FairText_15 d_FairText_readTwo_70 (fun p8 => ?_)
            refine z_iload_n (pc := 73) d_FairText_readTwo_73 rfl 3 rfl ?_
            refine z_bipush (pc := 74) d_FairText_readTwo_74 kb_10 ?_
            refine z_iload (pc := 76) d_FairText_readTwo_76 1 rfl ?_
            refine z_imul (pc := 78) d_FairText_readTwo_78 ?_
            refine z_iload (pc := 79) d_FairText_readTwo_79 0 rfl ?_
            refine z_iadd (pc := 81) d_FairText_readTwo_81 ?_
            refine z_iastore (pc := 82) d_FairText_readTwo_82 (fun D9 => ?_)
            refine z_aload_n (pc := 83) d_FairText_readTwo_83 rfl 2 rfl ?_
            refine z_dup (pc := 84) d_FairText_readTwo_84 rfl ?_
            refine z_getI (pc := 85) fl_FairText_23 d_FairText_readTwo_85 (fun v10 => ?_)
            refine z_iconst (pc := 88) d_FairText_readTwo_88 ki_1 ?_
            refine z_iadd (pc := 89) d_FairText_readTwo_89 ?_
            refine z_putI (pc := 90) fl_FairText_23 d_FairText_readTwo_90 (fun D11 => ?_)
            refine z_iconst (pc := 93) d_FairText_readTwo_93 ki_1 ?_
            exact z_zretK (pc := 94) d_FairText_readTwo_94 rfl (by decide)
        · exact z_sub [] rfl (h29 D3)
theorem d_FairText_readEither_0 : decode Y_FairText_readEither.2.1 0 = .ok (.aload_n 0, 1) := by decide +kernel
theorem d_FairText_readEither_1 : decode Y_FairText_readEither.2.1 1 = .ok (.iload_n 2, 1) := by decide +kernel
theorem d_FairText_readEither_2 : decode Y_FairText_readEither.2.1 2 = .ok (.invokevirtual 26, 3) := by decide +kernel
theorem d_FairText_readEither_5 : decode Y_FairText_readEither.2.1 5 = .ok (.ifCond .ne (11), 3) := by decide +kernel
theorem d_FairText_readEither_8 : decode Y_FairText_readEither.2.1 8 = .ok (.aload_n 0, 1) := by decide +kernel
theorem d_FairText_readEither_9 : decode Y_FairText_readEither.2.1 9 = .ok (.iload_n 3, 1) := by decide +kernel
theorem d_FairText_readEither_10 : decode Y_FairText_readEither.2.1 10 = .ok (.invokevirtual 26, 3) := by decide +kernel
theorem d_FairText_readEither_13 : decode Y_FairText_readEither.2.1 13 = .ok (.ifCond .eq (12), 3) := by decide +kernel
theorem d_FairText_readEither_16 : decode Y_FairText_readEither.2.1 16 = .ok (.iload_n 1, 1) := by decide +kernel
theorem d_FairText_readEither_17 : decode Y_FairText_readEither.2.1 17 = .ok (.ifCond .lt (8), 3) := by decide +kernel
theorem d_FairText_readEither_20 : decode Y_FairText_readEither.2.1 20 = .ok (.iload_n 1, 1) := by decide +kernel
theorem d_FairText_readEither_21 : decode Y_FairText_readEither.2.1 21 = .ok (.iconst (5), 1) := by decide +kernel
theorem d_FairText_readEither_22 : decode Y_FairText_readEither.2.1 22 = .ok (.if_icmp .lt (5), 3) := by decide +kernel
theorem d_FairText_readEither_25 : decode Y_FairText_readEither.2.1 25 = .ok (.iconst (0), 1) := by decide +kernel
theorem d_FairText_readEither_26 : decode Y_FairText_readEither.2.1 26 = .ok (.ireturn, 1) := by decide +kernel
theorem d_FairText_readEither_27 : decode Y_FairText_readEither.2.1 27 = .ok (.aload_n 0, 1) := by decide +kernel
theorem d_FairText_readEither_28 : decode Y_FairText_readEither.2.1 28 = .ok (.getfield 15, 3) := by decide +kernel
theorem d_FairText_readEither_31 : decode Y_FairText_readEither.2.1 31 = .ok (.iload_n 1, 1) := by decide +kernel
theorem d_FairText_readEither_32 : decode Y_FairText_readEither.2.1 32 = .ok (.aload_n 0, 1) := by decide +kernel
theorem d_FairText_readEither_33 : decode Y_FairText_readEither.2.1 33 = .ok (.invokevirtual 37, 3) := by decide +kernel
theorem d_FairText_readEither_36 : decode Y_FairText_readEither.2.1 36 = .ok (.iastore, 1) := by decide +kernel
theorem d_FairText_readEither_37 : decode Y_FairText_readEither.2.1 37 = .ok (.aload_n 0, 1) := by decide +kernel
theorem d_FairText_readEither_38 : decode Y_FairText_readEither.2.1 38 = .ok (.dup, 1) := by decide +kernel
theorem d_FairText_readEither_39 : decode Y_FairText_readEither.2.1 39 = .ok (.getfield 23, 3) := by decide +kernel
theorem d_FairText_readEither_42 : decode Y_FairText_readEither.2.1 42 = .ok (.iconst (1), 1) := by decide +kernel
theorem d_FairText_readEither_43 : decode Y_FairText_readEither.2.1 43 = .ok (.iadd, 1) := by decide +kernel
theorem d_FairText_readEither_44 : decode Y_FairText_readEither.2.1 44 = .ok (.putfield 23, 3) := by decide +kernel
theorem d_FairText_readEither_47 : decode Y_FairText_readEither.2.1 47 = .ok (.iconst (1), 1) := by decide +kernel
theorem d_FairText_readEither_48 : decode Y_FairText_readEither.2.1 48 = .ok (.ireturn, 1) := by decide +kernel
def f_FairText_readEither (w : zW) (D : zD) (a : Nat) (x1 : Int32) (x2 : Int32) (x3 : Int32) : Option (Int32 × zD) := zjp (fun (D1 : zD) => some ((0 : Int32), D1)) (fun j25 => zjp (fun (D2 : zD) => (if x1 < 0 then j25 D2 else (if x1 < (5 : Int32) then zref w 2 4 a (fun p3 => zobj w 2 a (zci (f_FairText_next w D2 a ) (fun v4 D5 => zast w D5 0 p3 x1 v4 (fun D6 => zfld w D6 2 2 a (fun v7 => zput w D6 2 2 a (v7 + (1 : Int32)) (fun D8 => some ((1 : Int32), D8))))))) else j25 D2))) (fun j16 => zobj w 2 a (zci (f_FairText_isNext w D a x2) (fun v9 D10 => (if v9 = 0 then zobj w 2 a (zci (f_FairText_isNext w D10 a x3) (fun v11 D12 => (if v11 = 0 then j25 D12 else j16 D12))) else j16 D10)))))
set_option maxHeartbeats 4000000 in
set_option maxRecDepth 100000 in
theorem c_FairText_readEither (z : zT) (D : zD) (a : Nat) (x1 : Int32) (x2 : Int32) (x3 : Int32) : zM Y_FairText_readEither 3 0 0 (zqI z) (f_FairText_readEither z.2 D a x1 x2 x3) [.ref a, .int x1, .int x2, .int x3] z D := by
  refine zM_of (plainFor_of_name (by decide +kernel)) rfl (Nat.le_of_ble_eq_true rfl) (fun _ _ _ _ h => nomatch h.1) (fun K => ?_)
  unfold f_FairText_readEither
  refine z_jp (fun j25 : zD → Option (Int32 × zD) => ∀ (D1 : zD), zGO K Y_FairText_readEither 3 0 0 (zqI z) (j25  D1) 0 0 z D1 25 [] []) (fun  D1 => ?_) (fun j25 h25 => ?_)
  · refine z_iconst (pc := 25) d_FairText_readEither_25 ki_0 ?_
    exact z_zretK (pc := 26) d_FairText_readEither_26 rfl (by decide)
  · refine z_jp (fun j16 : zD → Option (Int32 × zD) => ∀ (D2 : zD), zGO K Y_FairText_readEither 3 0 0 (zqI z) (j16  D2) 0 0 z D2 16 [(0, .ref a), (1, .int x1)] []) (fun  D2 => ?_) (fun j16 h16 => ?_)
    · refine z_iload_n (pc := 16) d_FairText_readEither_16 rfl 1 rfl ?_
      refine z_if_lt (pc := 17) (tgt := 25) d_FairText_readEither_17 (by decide) ?_ ?_
      · exact z_sub [] rfl (h25 D2)
      · refine z_iload_n (pc := 20) d_FairText_readEither_20 rfl 1 rfl ?_
        refine z_iconst (pc := 21) d_FairText_readEither_21 ki_5 ?_
        refine z_icmp_lt (pc := 22) (tgt := 27) d_FairText_readEither_22 (by decide) ?_ ?_
        · refine z_aload_n (pc := 27) d_FairText_readEither_27 rfl 0 rfl ?_
          refine z_getR (pc := 28) fl_FairText_15 d_FairText_readEither_28 (fun p3 => ?_)
          refine z_iload_n (pc := 31) d_FairText_readEither_31 rfl 1 rfl ?_
          refine z_aload_n (pc := 32) d_FairText_readEither_32 rfl 0 rfl ?_
          refine z_callVi (pc := 33) [] lkV_FairText_37 rfl (c_FairText_next z D2 a ) (by decide) rfl rfl (Nat.le_of_ble_eq_true rfl) d_FairText_readEither_33 (fun v4 D5 => ?_)
          refine z_iastore (pc := 36) d_FairText_readEither_36 (fun D6 => ?_)
          refine z_aload_n (pc := 37) d_FairText_readEither_37 rfl 0 rfl ?_
          refine z_dup (pc := 38) d_FairText_readEither_38 rfl ?_
          refine z_getI (pc := 39) fl_FairText_23 d_FairText_readEither_39 (fun v7 => ?_)
          refine z_iconst (pc := 42) d_FairText_readEither_42 ki_1 ?_
          refine z_iadd (pc := 43) d_FairText_readEither_43 ?_
          refine z_putI (pc := 44) fl_FairText_23 d_FairText_readEither_44 (fun D8 => ?_)
          refine z_iconst (pc := 47) d_FairText_readEither_47 ki_1 ?_
          exact z_zretK (pc := 48) d_FairText_readEither_48 rfl (by decide)
        · exact z_sub [] rfl (h25 D2)
    · refine z_aload_n (pc := 0) d_FairText_readEither_0 rfl 0 rfl ?_
      refine z_iload_n (pc := 1) d_FairText_readEither_1 rfl 2 rfl ?_
      refine z_callVi (pc := 2) [.int x2] lkV_FairText_26 rfl (c_FairText_isNext z D a x2) (by decide) rfl rfl (Nat.le_of_ble_eq_true rfl) d_FairText_readEither_2 (fun v9 D10 => ?_)
      refine z_if_ne (pc := 5) (tgt := 16) d_FairText_readEither_5 (by decide) ?_ ?_
      · refine z_aload_n (pc := 8) d_FairText_readEither_8 rfl 0 rfl ?_
        refine z_iload_n (pc := 9) d_FairText_readEither_9 rfl 3 rfl ?_
        refine z_callVi (pc := 10) [.int x3] lkV_FairText_26 rfl (c_FairText_isNext z D10 a x3) (by decide) rfl rfl (Nat.le_of_ble_eq_true rfl) d_FairText_readEither_10 (fun v11 D12 => ?_)
        refine z_if_eq (pc := 13) (tgt := 25) d_FairText_readEither_13 (by decide) ?_ ?_
        · exact z_sub [] rfl (h25 D12)
        · exact z_sub [0, 1] rfl (h16 D12)
      · exact z_sub [0, 1] rfl (h16 D10)
theorem d_FairText_readCommand_0 : decode Y_FairText_readCommand.2.1 0 = .ok (.aload_n 0, 1) := by decide +kernel
theorem d_FairText_readCommand_1 : decode Y_FairText_readCommand.2.1 1 = .ok (.aload_n 0, 1) := by decide +kernel
theorem d_FairText_readCommand_2 : decode Y_FairText_readCommand.2.1 2 = .ok (.invokevirtual 37, 3) := by decide +kernel
theorem d_FairText_readCommand_5 : decode Y_FairText_readCommand.2.1 5 = .ok (.putfield 41, 3) := by decide +kernel
theorem d_FairText_readCommand_8 : decode Y_FairText_readCommand.2.1 8 = .ok (.aload_n 0, 1) := by decide +kernel
theorem d_FairText_readCommand_9 : decode Y_FairText_readCommand.2.1 9 = .ok (.dup, 1) := by decide +kernel
theorem d_FairText_readCommand_10 : decode Y_FairText_readCommand.2.1 10 = .ok (.getfield 23, 3) := by decide +kernel
theorem d_FairText_readCommand_13 : decode Y_FairText_readCommand.2.1 13 = .ok (.iconst (1), 1) := by decide +kernel
theorem d_FairText_readCommand_14 : decode Y_FairText_readCommand.2.1 14 = .ok (.iadd, 1) := by decide +kernel
theorem d_FairText_readCommand_15 : decode Y_FairText_readCommand.2.1 15 = .ok (.putfield 23, 3) := by decide +kernel
theorem d_FairText_readCommand_18 : decode Y_FairText_readCommand.2.1 18 = .ok (.aload_n 0, 1) := by decide +kernel
theorem d_FairText_readCommand_19 : decode Y_FairText_readCommand.2.1 19 = .ok (.getfield 41, 3) := by decide +kernel
theorem d_FairText_readCommand_22 : decode Y_FairText_readCommand.2.1 22 = .ok (.lookupswitch (243) #[(99, (225)), (104, (120)), (111, (197)), (115, (58)), (116, (234)), (119, (168))], 58) := by decide +kernel
theorem d_FairText_readCommand_80 : decode Y_FairText_readCommand.2.1 80 = .ok (.aload_n 0, 1) := by decide +kernel
theorem d_FairText_readCommand_81 : decode Y_FairText_readCommand.2.1 81 = .ok (.iconst (0), 1) := by decide +kernel
theorem d_FairText_readCommand_82 : decode Y_FairText_readCommand.2.1 82 = .ok (.bipush (10), 2) := by decide +kernel
theorem d_FairText_readCommand_84 : decode Y_FairText_readCommand.2.1 84 = .ok (.bipush (70), 2) := by decide +kernel
theorem d_FairText_readCommand_86 : decode Y_FairText_readCommand.2.1 86 = .ok (.invokevirtual 44, 3) := by decide +kernel
theorem d_FairText_readCommand_89 : decode Y_FairText_readCommand.2.1 89 = .ok (.ifCond .eq (51), 3) := by decide +kernel
theorem d_FairText_readCommand_92 : decode Y_FairText_readCommand.2.1 92 = .ok (.aload_n 0, 1) := by decide +kernel
theorem d_FairText_readCommand_93 : decode Y_FairText_readCommand.2.1 93 = .ok (.iconst (1), 1) := by decide +kernel
theorem d_FairText_readCommand_94 : decode Y_FairText_readCommand.2.1 94 = .ok (.bipush (10), 2) := by decide +kernel
theorem d_FairText_readCommand_96 : decode Y_FairText_readCommand.2.1 96 = .ok (.bipush (70), 2) := by decide +kernel
theorem d_FairText_readCommand_98 : decode Y_FairText_readCommand.2.1 98 = .ok (.invokevirtual 44, 3) := by decide +kernel
theorem d_FairText_readCommand_101 : decode Y_FairText_readCommand.2.1 101 = .ok (.ifCond .eq (39), 3) := by decide +kernel
theorem d_FairText_readCommand_104 : decode Y_FairText_readCommand.2.1 104 = .ok (.aload_n 0, 1) := by decide +kernel
theorem d_FairText_readCommand_105 : decode Y_FairText_readCommand.2.1 105 = .ok (.iconst (2), 1) := by decide +kernel
theorem d_FairText_readCommand_106 : decode Y_FairText_readCommand.2.1 106 = .ok (.iconst (1), 1) := by decide +kernel
theorem d_FairText_readCommand_107 : decode Y_FairText_readCommand.2.1 107 = .ok (.iconst (5), 1) := by decide +kernel
theorem d_FairText_readCommand_108 : decode Y_FairText_readCommand.2.1 108 = .ok (.invokevirtual 48, 3) := by decide +kernel
theorem d_FairText_readCommand_111 : decode Y_FairText_readCommand.2.1 111 = .ok (.ifCond .eq (29), 3) := by decide +kernel
theorem d_FairText_readCommand_114 : decode Y_FairText_readCommand.2.1 114 = .ok (.aload_n 0, 1) := by decide +kernel
theorem d_FairText_readCommand_115 : decode Y_FairText_readCommand.2.1 115 = .ok (.iconst (3), 1) := by decide +kernel
theorem d_FairText_readCommand_116 : decode Y_FairText_readCommand.2.1 116 = .ok (.iconst (0), 1) := by decide +kernel
theorem d_FairText_readCommand_117 : decode Y_FairText_readCommand.2.1 117 = .ok (.bipush (6), 2) := by decide +kernel
theorem d_FairText_readCommand_119 : decode Y_FairText_readCommand.2.1 119 = .ok (.invokevirtual 48, 3) := by decide +kernel
theorem d_FairText_readCommand_122 : decode Y_FairText_readCommand.2.1 122 = .ok (.ifCond .eq (18), 3) := by decide +kernel
theorem d_FairText_readCommand_125 : decode Y_FairText_readCommand.2.1 125 = .ok (.aload_n 0, 1) := by decide +kernel
theorem d_FairText_readCommand_126 : decode Y_FairText_readCommand.2.1 126 = .ok (.iconst (4), 1) := by decide +kernel
theorem d_FairText_readCommand_127 : decode Y_FairText_readCommand.2.1 127 = .ok (.iconst (1), 1) := by decide +kernel
theorem d_FairText_readCommand_128 : decode Y_FairText_readCommand.2.1 128 = .ok (.bipush (20), 2) := by decide +kernel
theorem d_FairText_readCommand_130 : decode Y_FairText_readCommand.2.1 130 = .ok (.invokevirtual 44, 3) := by decide +kernel
theorem d_FairText_readCommand_133 : decode Y_FairText_readCommand.2.1 133 = .ok (.ifCond .eq (7), 3) := by decide +kernel
theorem d_FairText_readCommand_136 : decode Y_FairText_readCommand.2.1 136 = .ok (.iconst (1), 1) := by decide +kernel
theorem d_FairText_readCommand_137 : decode Y_FairText_readCommand.2.1 137 = .ok (.goto (4), 3) := by decide +kernel
theorem d_FairText_readCommand_140 : decode Y_FairText_readCommand.2.1 140 = .ok (.iconst (0), 1) := by decide +kernel
theorem d_FairText_readCommand_141 : decode Y_FairText_readCommand.2.1 141 = .ok (.ireturn, 1) := by decide +kernel
theorem d_FairText_readCommand_142 : decode Y_FairText_readCommand.2.1 142 = .ok (.aload_n 0, 1) := by decide +kernel
theorem d_FairText_readCommand_143 : decode Y_FairText_readCommand.2.1 143 = .ok (.iconst (0), 1) := by decide +kernel
theorem d_FairText_readCommand_144 : decode Y_FairText_readCommand.2.1 144 = .ok (.iconst (0), 1) := by decide +kernel
theorem d_FairText_readCommand_145 : decode Y_FairText_readCommand.2.1 145 = .ok (.bipush (80), 2) := by decide +kernel
theorem d_FairText_readCommand_147 : decode Y_FairText_readCommand.2.1 147 = .ok (.invokevirtual 44, 3) := by decide +kernel
theorem d_FairText_readCommand_150 : decode Y_FairText_readCommand.2.1 150 = .ok (.ifCond .eq (38), 3) := by decide +kernel
theorem d_FairText_readCommand_153 : decode Y_FairText_readCommand.2.1 153 = .ok (.aload_n 0, 1) := by decide +kernel
theorem d_FairText_readCommand_154 : decode Y_FairText_readCommand.2.1 154 = .ok (.iconst (1), 1) := by decide +kernel
theorem d_FairText_readCommand_155 : decode Y_FairText_readCommand.2.1 155 = .ok (.iconst (0), 1) := by decide +kernel
theorem d_FairText_readCommand_156 : decode Y_FairText_readCommand.2.1 156 = .ok (.bipush (80), 2) := by decide +kernel
theorem d_FairText_readCommand_158 : decode Y_FairText_readCommand.2.1 158 = .ok (.invokevirtual 44, 3) := by decide +kernel
theorem d_FairText_readCommand_161 : decode Y_FairText_readCommand.2.1 161 = .ok (.ifCond .eq (27), 3) := by decide +kernel
theorem d_FairText_readCommand_164 : decode Y_FairText_readCommand.2.1 164 = .ok (.aload_n 0, 1) := by decide +kernel
theorem d_FairText_readCommand_165 : decode Y_FairText_readCommand.2.1 165 = .ok (.iconst (2), 1) := by decide +kernel
theorem d_FairText_readCommand_166 : decode Y_FairText_readCommand.2.1 166 = .ok (.iconst (0), 1) := by decide +kernel
theorem d_FairText_readCommand_167 : decode Y_FairText_readCommand.2.1 167 = .ok (.iconst (4), 1) := by decide +kernel
theorem d_FairText_readCommand_168 : decode Y_FairText_readCommand.2.1 168 = .ok (.invokevirtual 48, 3) := by decide +kernel
theorem d_FairText_readCommand_171 : decode Y_FairText_readCommand.2.1 171 = .ok (.ifCond .eq (17), 3) := by decide +kernel
theorem d_FairText_readCommand_174 : decode Y_FairText_readCommand.2.1 174 = .ok (.aload_n 0, 1) := by decide +kernel
theorem d_FairText_readCommand_175 : decode Y_FairText_readCommand.2.1 175 = .ok (.iconst (3), 1) := by decide +kernel
theorem d_FairText_readCommand_176 : decode Y_FairText_readCommand.2.1 176 = .ok (.iconst (0), 1) := by decide +kernel
theorem d_FairText_readCommand_177 : decode Y_FairText_readCommand.2.1 177 = .ok (.iconst (4), 1) := by decide +kernel
theorem d_FairText_readCommand_178 : decode Y_FairText_readCommand.2.1 178 = .ok (.invokevirtual 48, 3) := by decide +kernel
theorem d_FairText_readCommand_181 : decode Y_FairText_readCommand.2.1 181 = .ok (.ifCond .eq (7), 3) := by decide +kernel
theorem d_FairText_readCommand_184 : decode Y_FairText_readCommand.2.1 184 = .ok (.iconst (1), 1) := by decide +kernel
theorem d_FairText_readCommand_185 : decode Y_FairText_readCommand.2.1 185 = .ok (.goto (4), 3) := by decide +kernel
theorem d_FairText_readCommand_188 : decode Y_FairText_readCommand.2.1 188 = .ok (.iconst (0), 1) := by decide +kernel
theorem d_FairText_readCommand_189 : decode Y_FairText_readCommand.2.1 189 = .ok (.ireturn, 1) := by decide +kernel
theorem d_FairText_readCommand_190 : decode Y_FairText_readCommand.2.1 190 = .ok (.aload_n 0, 1) := by decide +kernel
theorem d_FairText_readCommand_191 : decode Y_FairText_readCommand.2.1 191 = .ok (.iconst (0), 1) := by decide +kernel
theorem d_FairText_readCommand_192 : decode Y_FairText_readCommand.2.1 192 = .ok (.bipush (117), 2) := by decide +kernel
theorem d_FairText_readCommand_194 : decode Y_FairText_readCommand.2.1 194 = .ok (.bipush (108), 2) := by decide +kernel
theorem d_FairText_readCommand_196 : decode Y_FairText_readCommand.2.1 196 = .ok (.invokevirtual 51, 3) := by decide +kernel
theorem d_FairText_readCommand_199 : decode Y_FairText_readCommand.2.1 199 = .ok (.ifCond .eq (18), 3) := by decide +kernel
theorem d_FairText_readCommand_202 : decode Y_FairText_readCommand.2.1 202 = .ok (.aload_n 0, 1) := by decide +kernel
theorem d_FairText_readCommand_203 : decode Y_FairText_readCommand.2.1 203 = .ok (.iconst (1), 1) := by decide +kernel
theorem d_FairText_readCommand_204 : decode Y_FairText_readCommand.2.1 204 = .ok (.iconst (0), 1) := by decide +kernel
theorem d_FairText_readCommand_205 : decode Y_FairText_readCommand.2.1 205 = .ok (.bipush (80), 2) := by decide +kernel
theorem d_FairText_readCommand_207 : decode Y_FairText_readCommand.2.1 207 = .ok (.invokevirtual 44, 3) := by decide +kernel
theorem d_FairText_readCommand_210 : decode Y_FairText_readCommand.2.1 210 = .ok (.ifCond .eq (7), 3) := by decide +kernel
theorem d_FairText_readCommand_213 : decode Y_FairText_readCommand.2.1 213 = .ok (.iconst (1), 1) := by decide +kernel
theorem d_FairText_readCommand_214 : decode Y_FairText_readCommand.2.1 214 = .ok (.goto (4), 3) := by decide +kernel
theorem d_FairText_readCommand_217 : decode Y_FairText_readCommand.2.1 217 = .ok (.iconst (0), 1) := by decide +kernel
theorem d_FairText_readCommand_218 : decode Y_FairText_readCommand.2.1 218 = .ok (.ireturn, 1) := by decide +kernel
theorem d_FairText_readCommand_219 : decode Y_FairText_readCommand.2.1 219 = .ok (.aload_n 0, 1) := by decide +kernel
theorem d_FairText_readCommand_220 : decode Y_FairText_readCommand.2.1 220 = .ok (.iconst (0), 1) := by decide +kernel
theorem d_FairText_readCommand_221 : decode Y_FairText_readCommand.2.1 221 = .ok (.iconst (0), 1) := by decide +kernel
theorem d_FairText_readCommand_222 : decode Y_FairText_readCommand.2.1 222 = .ok (.iconst (3), 1) := by decide +kernel
theorem d_FairText_readCommand_223 : decode Y_FairText_readCommand.2.1 223 = .ok (.invokevirtual 48, 3) := by decide +kernel
theorem d_FairText_readCommand_226 : decode Y_FairText_readCommand.2.1 226 = .ok (.ifCond .eq (19), 3) := by decide +kernel
theorem d_FairText_readCommand_229 : decode Y_FairText_readCommand.2.1 229 = .ok (.aload_n 0, 1) := by decide +kernel
theorem d_FairText_readCommand_230 : decode Y_FairText_readCommand.2.1 230 = .ok (.iconst (1), 1) := by decide +kernel
theorem d_FairText_readCommand_231 : decode Y_FairText_readCommand.2.1 231 = .ok (.bipush (43), 2) := by decide +kernel
theorem d_FairText_readCommand_233 : decode Y_FairText_readCommand.2.1 233 = .ok (.bipush (45), 2) := by decide +kernel
theorem d_FairText_readCommand_235 : decode Y_FairText_readCommand.2.1 235 = .ok (.invokevirtual 51, 3) := by decide +kernel
theorem d_FairText_readCommand_238 : decode Y_FairText_readCommand.2.1 238 = .ok (.ifCond .eq (7), 3) := by decide +kernel
theorem d_FairText_readCommand_241 : decode Y_FairText_readCommand.2.1 241 = .ok (.iconst (1), 1) := by decide +kernel
theorem d_FairText_readCommand_242 : decode Y_FairText_readCommand.2.1 242 = .ok (.goto (4), 3) := by decide +kernel
theorem d_FairText_readCommand_245 : decode Y_FairText_readCommand.2.1 245 = .ok (.iconst (0), 1) := by decide +kernel
theorem d_FairText_readCommand_246 : decode Y_FairText_readCommand.2.1 246 = .ok (.ireturn, 1) := by decide +kernel
theorem d_FairText_readCommand_247 : decode Y_FairText_readCommand.2.1 247 = .ok (.aload_n 0, 1) := by decide +kernel
theorem d_FairText_readCommand_248 : decode Y_FairText_readCommand.2.1 248 = .ok (.iconst (0), 1) := by decide +kernel
theorem d_FairText_readCommand_249 : decode Y_FairText_readCommand.2.1 249 = .ok (.iconst (1), 1) := by decide +kernel
theorem d_FairText_readCommand_250 : decode Y_FairText_readCommand.2.1 250 = .ok (.bipush (9), 2) := by decide +kernel
theorem d_FairText_readCommand_252 : decode Y_FairText_readCommand.2.1 252 = .ok (.invokevirtual 48, 3) := by decide +kernel
theorem d_FairText_readCommand_255 : decode Y_FairText_readCommand.2.1 255 = .ok (.ireturn, 1) := by decide +kernel
theorem d_FairText_readCommand_256 : decode Y_FairText_readCommand.2.1 256 = .ok (.aload_n 0, 1) := by decide +kernel
theorem d_FairText_readCommand_257 : decode Y_FairText_readCommand.2.1 257 = .ok (.iconst (0), 1) := by decide +kernel
theorem d_FairText_readCommand_258 : decode Y_FairText_readCommand.2.1 258 = .ok (.iconst (1), 1) := by decide +kernel
theorem d_FairText_readCommand_259 : decode Y_FairText_readCommand.2.1 259 = .ok (.bipush (99), 2) := by decide +kernel
theorem d_FairText_readCommand_261 : decode Y_FairText_readCommand.2.1 261 = .ok (.invokevirtual 44, 3) := by decide +kernel
theorem d_FairText_readCommand_264 : decode Y_FairText_readCommand.2.1 264 = .ok (.ireturn, 1) := by decide +kernel
theorem d_FairText_readCommand_265 : decode Y_FairText_readCommand.2.1 265 = .ok (.aload_n 0, 1) := by decide +kernel
theorem d_FairText_readCommand_266 : decode Y_FairText_readCommand.2.1 266 = .ok (.dup, 1) := by decide +kernel
theorem d_FairText_readCommand_267 : decode Y_FairText_readCommand.2.1 267 = .ok (.getfield 23, 3) := by decide +kernel
theorem d_FairText_readCommand_270 : decode Y_FairText_readCommand.2.1 270 = .ok (.iconst (1), 1) := by decide +kernel
theorem d_FairText_readCommand_271 : decode Y_FairText_readCommand.2.1 271 = .ok (.isub, 1) := by decide +kernel
theorem d_FairText_readCommand_272 : decode Y_FairText_readCommand.2.1 272 = .ok (.putfield 23, 3) := by decide +kernel
theorem d_FairText_readCommand_275 : decode Y_FairText_readCommand.2.1 275 = .ok (.iconst (0), 1) := by decide +kernel
theorem d_FairText_readCommand_276 : decode Y_FairText_readCommand.2.1 276 = .ok (.ireturn, 1) := by decide +kernel
def f_FairText_readCommand (w : zW) (D : zD) (a : Nat) : Option (Int32 × zD) := zobj w 2 a (zci (f_FairText_next w D a ) (fun v1 D2 => zput w D2 2 3 a v1 (fun D3 => zfld w D3 2 2 a (fun v4 => zput w D3 2 2 a (v4 + (1 : Int32)) (fun D5 => zfld w D5 2 3 a (fun v6 => (if v6 = (99 : Int32) then zobj w 2 a (zci (f_FairText_readOne w D5 a (0 : Int32) (1 : Int32) (9 : Int32)) (fun v7 D8 => zchk (v7 = 0 ∨ v7 = 1) (some (v7, D8)))) else (if v6 = (104 : Int32) then zjp (fun (s0 : Int32) (D9 : zD) => zchk (s0 = 0 ∨ s0 = 1) (some (s0, D9))) (fun j189 => zjp (fun (D10 : zD) => j189 (0 : Int32) D10) (fun j188 => zobj w 2 a (zci (f_FairText_readTwo w D5 a (0 : Int32) (0 : Int32) (80 : Int32)) (fun v11 D12 => (if v11 = 0 then j188 D12 else zobj w 2 a (zci (f_FairText_readTwo w D12 a (1 : Int32) (0 : Int32) (80 : Int32)) (fun v13 D14 => (if v13 = 0 then j188 D14 else zobj w 2 a (zci (f_FairText_readOne w D14 a (2 : Int32) (0 : Int32) (4 : Int32)) (fun v15 D16 => (if v15 = 0 then j188 D16 else zobj w 2 a (zci (f_FairText_readOne w D16 a (3 : Int32) (0 : Int32) (4 : Int32)) (fun v17 D18 => (if v17 = 0 then j188 D18 else j189 (1 : Int32) D18)))))))))))))) else (if v6 = (111 : Int32) then zjp (fun (s0 : Int32) (D19 : zD) => zchk (s0 = 0 ∨ s0 = 1) (some (s0, D19))) (fun j246 => zjp (fun (D20 : zD) => j246 (0 : Int32) D20) (fun j245 => zobj w 2 a (zci (f_FairText_readOne w D5 a (0 : Int32) (0 : Int32) (3 : Int32)) (fun v21 D22 => (if v21 = 0 then j245 D22 else zobj w 2 a (zci (f_FairText_readEither w D22 a (1 : Int32) (43 : Int32) (45 : Int32)) (fun v23 D24 => (if v23 = 0 then j245 D24 else j246 (1 : Int32) D24)))))))) else (if v6 = (115 : Int32) then zjp (fun (s0 : Int32) (D25 : zD) => zchk (s0 = 0 ∨ s0 = 1) (some (s0, D25))) (fun j141 => zjp (fun (D26 : zD) => j141 (0 : Int32) D26) (fun j140 => zobj w 2 a (zci (f_FairText_readTwo w D5 a (0 : Int32) (10 : Int32) (70 : Int32)) (fun v27 D28 => (if v27 = 0 then j140 D28 else zobj w 2 a (zci (f_FairText_readTwo w D28 a (1 : Int32) (10 : Int32) (70 : Int32)) (fun v29 D30 => (if v29 = 0 then j140 D30 else zobj w 2 a (zci (f_FairText_readOne w D30 a (2 : Int32) (1 : Int32) (5 : Int32)) (fun v31 D32 => (if v31 = 0 then j140 D32 else zobj w 2 a (zci (f_FairText_readOne w D32 a (3 : Int32) (0 : Int32) (6 : Int32)) (fun v33 D34 => (if v33 = 0 then j140 D34 else zobj w 2 a (zci (f_FairText_readTwo w D34 a (4 : Int32) (1 : Int32) (20 : Int32)) (fun v35 D36 => (if v35 = 0 then j140 D36 else j141 (1 : Int32) D36))))))))))))))))) else (if v6 = (116 : Int32) then zobj w 2 a (zci (f_FairText_readTwo w D5 a (0 : Int32) (1 : Int32) (99 : Int32)) (fun v37 D38 => zchk (v37 = 0 ∨ v37 = 1) (some (v37, D38)))) else (if v6 = (119 : Int32) then zjp (fun (s0 : Int32) (D39 : zD) => zchk (s0 = 0 ∨ s0 = 1) (some (s0, D39))) (fun j218 => zjp (fun (D40 : zD) => j218 (0 : Int32) D40) (fun j217 => zobj w 2 a (zci (f_FairText_readEither w D5 a (0 : Int32) (117 : Int32) (108 : Int32)) (fun v41 D42 => (if v41 = 0 then j217 D42 else zobj w 2 a (zci (f_FairText_readTwo w D42 a (1 : Int32) (0 : Int32) (80 : Int32)) (fun v43 D44 => (if v43 = 0 then j217 D44 else j218 (1 : Int32) D44)))))))) else zfld w D5 2 2 a (fun v45 => zput w D5 2 2 a (v45 - (1 : Int32)) (fun D46 => some ((0 : Int32), D46)))))))))))))))
set_option maxHeartbeats 4000000 in
set_option maxRecDepth 100000 in
theorem c_FairText_readCommand (z : zT) (D : zD) (a : Nat) : zM Y_FairText_readCommand 4 0 0 (zqI z) (f_FairText_readCommand z.2 D a) [.ref a] z D := by
  refine zM_of (plainFor_of_name (by decide +kernel)) rfl (Nat.le_of_ble_eq_true rfl) (fun _ _ _ _ h => nomatch h.1) (fun K => ?_)
  unfold f_FairText_readCommand
  refine z_aload_n (pc := 0) d_FairText_readCommand_0 rfl 0 rfl ?_
  refine z_aload_n (pc := 1) d_FairText_readCommand_1 rfl 0 rfl ?_
  refine z_callVi (pc := 2) [] lkV_FairText_37 rfl (c_FairText_next z D a ) (by decide) rfl rfl (Nat.le_of_ble_eq_true rfl) d_FairText_readCommand_2 (fun v1 D2 => ?_)
  refine z_putI (pc := 5) fl_FairText_41 d_FairText_readCommand_5 (fun D3 => ?_)
  refine z_aload_n (pc := 8) d_FairText_readCommand_8 rfl 0 rfl ?_
  refine z_dup (pc := 9) d_FairText_readCommand_9 rfl ?_
  refine z_getI (pc := 10) fl_FairText_23 d_FairText_readCommand_10 (fun v4 => ?_)
  refine z_iconst (pc := 13) d_FairText_readCommand_13 ki_1 ?_
  refine z_iadd (pc := 14) d_FairText_readCommand_14 ?_
  refine z_putI (pc := 15) fl_FairText_23 d_FairText_readCommand_15 (fun D5 => ?_)
  refine z_aload_n (pc := 18) d_FairText_readCommand_18 rfl 0 rfl ?_
  refine z_getI (pc := 19) fl_FairText_41 d_FairText_readCommand_19 (fun v6 => ?_)
  refine z_case (fun e99 => ?_) (fun e99 => ?_)
  · refine z_lookup (pc := 22) (tgt := 247) d_FairText_readCommand_22 rfl (by rw [e99]) (by decide) ?_
    refine z_aload_n (pc := 247) d_FairText_readCommand_247 rfl 0 rfl ?_
    refine z_iconst (pc := 248) d_FairText_readCommand_248 ki_0 ?_
    refine z_iconst (pc := 249) d_FairText_readCommand_249 ki_1 ?_
    refine z_bipush (pc := 250) d_FairText_readCommand_250 kb_9 ?_
    refine z_callVi (pc := 252) [.int (0 : Int32), .int (1 : Int32), .int (9 : Int32)] lkV_FairText_48 rfl (c_FairText_readOne z D5 a (0 : Int32) (1 : Int32) (9 : Int32)) (by decide) rfl rfl (Nat.le_of_ble_eq_true rfl) d_FairText_readCommand_252 (fun v7 D8 => ?_)
    exact z_zret (pc := 255) d_FairText_readCommand_255 rfl
  · refine z_case (fun e104 => ?_) (fun e104 => ?_)
    · refine z_lookup (pc := 22) (tgt := 142) d_FairText_readCommand_22 rfl (by rw [e104]) (by decide) ?_
      refine z_jp (fun j189 : Int32 → zD → Option (Int32 × zD) => ∀ (s0 : Int32) (D9 : zD), zGO K Y_FairText_readCommand 4 0 0 (zqI z) (j189 s0 D9) 0 0 z D9 189 [] [.int s0]) (fun s0 D9 => ?_) (fun j189 h189 => ?_)
      · exact z_zret (pc := 189) d_FairText_readCommand_189 rfl
      · refine z_jp (fun j188 : zD → Option (Int32 × zD) => ∀ (D10 : zD), zGO K Y_FairText_readCommand 4 0 0 (zqI z) (j188  D10) 0 0 z D10 188 [] []) (fun  D10 => ?_) (fun j188 h188 => ?_)
        · refine z_iconst (pc := 188) d_FairText_readCommand_188 ki_0 ?_
          exact z_sub [] rfl (h189 (0 : Int32) D10)
        · refine z_aload_n (pc := 142) d_FairText_readCommand_142 rfl 0 rfl ?_
          refine z_iconst (pc := 143) d_FairText_readCommand_143 ki_0 ?_
          refine z_iconst (pc := 144) d_FairText_readCommand_144 ki_0 ?_
          refine z_bipush (pc := 145) d_FairText_readCommand_145 kb_80 ?_
          refine z_callVi (pc := 147) [.int (0 : Int32), .int (0 : Int32), .int (80 : Int32)] lkV_FairText_44 rfl (c_FairText_readTwo z D5 a (0 : Int32) (0 : Int32) (80 : Int32)) (by decide) rfl rfl (Nat.le_of_ble_eq_true rfl) d_FairText_readCommand_147 (fun v11 D12 => ?_)
          refine z_if_eq (pc := 150) (tgt := 188) d_FairText_readCommand_150 (by decide) ?_ ?_
          · exact z_sub [] rfl (h188 D12)
          · refine z_aload_n (pc := 153) d_FairText_readCommand_153 rfl 0 rfl ?_
            refine z_iconst (pc := 154) d_FairText_readCommand_154 ki_1 ?_
            refine z_iconst (pc := 155) d_FairText_readCommand_155 ki_0 ?_
            refine z_bipush (pc := 156) d_FairText_readCommand_156 kb_80 ?_
            refine z_callVi (pc := 158) [.int (1 : Int32), .int (0 : Int32), .int (80 : Int32)] lkV_FairText_44 rfl (c_FairText_readTwo z D12 a (1 : Int32) (0 : Int32) (80 : Int32)) (by decide) rfl rfl (Nat.le_of_ble_eq_true rfl) d_FairText_readCommand_158 (fun v13 D14 => ?_)
            refine z_if_eq (pc := 161) (tgt := 188) d_FairText_readCommand_161 (by decide) ?_ ?_
            · exact z_sub [] rfl (h188 D14)
            · refine z_aload_n (pc := 164) d_FairText_readCommand_164 rfl 0 rfl ?_
              refine z_iconst (pc := 165) d_FairText_readCommand_165 ki_2 ?_
              refine z_iconst (pc := 166) d_FairText_readCommand_166 ki_0 ?_
              refine z_iconst (pc := 167) d_FairText_readCommand_167 ki_4 ?_
              refine z_callVi (pc := 168) [.int (2 : Int32), .int (0 : Int32), .int (4 : Int32)] lkV_FairText_48 rfl (c_FairText_readOne z D14 a (2 : Int32) (0 : Int32) (4 : Int32)) (by decide) rfl rfl (Nat.le_of_ble_eq_true rfl) d_FairText_readCommand_168 (fun v15 D16 => ?_)
              refine z_if_eq (pc := 171) (tgt := 188) d_FairText_readCommand_171 (by decide) ?_ ?_
              · exact z_sub [] rfl (h188 D16)
              · refine z_aload_n (pc := 174) d_FairText_readCommand_174 rfl 0 rfl ?_
                refine z_iconst (pc := 175) d_FairText_readCommand_175 ki_3 ?_
                refine z_iconst (pc := 176) d_FairText_readCommand_176 ki_0 ?_
                refine z_iconst (pc := 177) d_FairText_readCommand_177 ki_4 ?_
                refine z_callVi (pc := 178) [.int (3 : Int32), .int (0 : Int32), .int (4 : Int32)] lkV_FairText_48 rfl (c_FairText_readOne z D16 a (3 : Int32) (0 : Int32) (4 : Int32)) (by decide) rfl rfl (Nat.le_of_ble_eq_true rfl) d_FairText_readCommand_178 (fun v17 D18 => ?_)
                refine z_if_eq (pc := 181) (tgt := 188) d_FairText_readCommand_181 (by decide) ?_ ?_
                · exact z_sub [] rfl (h188 D18)
                · refine z_iconst (pc := 184) d_FairText_readCommand_184 ki_1 ?_
                  refine z_goto (pc := 185) (tgt := 189) d_FairText_readCommand_185 (by decide) ?_
                  exact z_sub [] rfl (h189 (1 : Int32) D18)
    · refine z_case (fun e111 => ?_) (fun e111 => ?_)
      · refine z_lookup (pc := 22) (tgt := 219) d_FairText_readCommand_22 rfl (by rw [e111]) (by decide) ?_
        refine z_jp (fun j246 : Int32 → zD → Option (Int32 × zD) => ∀ (s0 : Int32) (D19 : zD), zGO K Y_FairText_readCommand 4 0 0 (zqI z) (j246 s0 D19) 0 0 z D19 246 [] [.int s0]) (fun s0 D19 => ?_) (fun j246 h246 => ?_)
        · exact z_zret (pc := 246) d_FairText_readCommand_246 rfl
        · refine z_jp (fun j245 : zD → Option (Int32 × zD) => ∀ (D20 : zD), zGO K Y_FairText_readCommand 4 0 0 (zqI z) (j245  D20) 0 0 z D20 245 [] []) (fun  D20 => ?_) (fun j245 h245 => ?_)
          · refine z_iconst (pc := 245) d_FairText_readCommand_245 ki_0 ?_
            exact z_sub [] rfl (h246 (0 : Int32) D20)
          · refine z_aload_n (pc := 219) d_FairText_readCommand_219 rfl 0 rfl ?_
            refine z_iconst (pc := 220) d_FairText_readCommand_220 ki_0 ?_
            refine z_iconst (pc := 221) d_FairText_readCommand_221 ki_0 ?_
            refine z_iconst (pc := 222) d_FairText_readCommand_222 ki_3 ?_
            refine z_callVi (pc := 223) [.int (0 : Int32), .int (0 : Int32), .int (3 : Int32)] lkV_FairText_48 rfl (c_FairText_readOne z D5 a (0 : Int32) (0 : Int32) (3 : Int32)) (by decide) rfl rfl (Nat.le_of_ble_eq_true rfl) d_FairText_readCommand_223 (fun v21 D22 => ?_)
            refine z_if_eq (pc := 226) (tgt := 245) d_FairText_readCommand_226 (by decide) ?_ ?_
            · exact z_sub [] rfl (h245 D22)
            · refine z_aload_n (pc := 229) d_FairText_readCommand_229 rfl 0 rfl ?_
              refine z_iconst (pc := 230) d_FairText_readCommand_230 ki_1 ?_
              refine z_bipush (pc := 231) d_FairText_readCommand_231 kb_43 ?_
              refine z_bipush (pc := 233) d_FairText_readCommand_233 kb_45 ?_
              refine z_callVi (pc := 235) [.int (1 : Int32), .int (43 : Int32), .int (45 : Int32)] lkV_FairText_51 rfl (c_FairText_readEither z D22 a (1 : Int32) (43 : Int32) (45 : Int32)) (by decide) rfl rfl (Nat.le_of_ble_eq_true rfl) d_FairText_readCommand_235 (fun v23 D24 => ?_)
              refine z_if_eq (pc := 238) (tgt := 245) d_FairText_readCommand_238 (by decide) ?_ ?_
              · exact z_sub [] rfl (h245 D24)
              · refine z_iconst (pc := 241) d_FairText_readCommand_241 ki_1 ?_
                refine z_goto (pc := 242) (tgt := 246) d_FairText_readCommand_242 (by decide) ?_
                exact z_sub [] rfl (h246 (1 : Int32) D24)
      · refine z_case (fun e115 => ?_) (fun e115 => ?_)
        · refine z_lookup (pc := 22) (tgt := 80) d_FairText_readCommand_22 rfl (by rw [e115]) (by decide) ?_
          refine z_jp (fun j141 : Int32 → zD → Option (Int32 × zD) => ∀ (s0 : Int32) (D25 : zD), zGO K Y_FairText_readCommand 4 0 0 (zqI z) (j141 s0 D25) 0 0 z D25 141 [] [.int s0]) (fun s0 D25 => ?_) (fun j141 h141 => ?_)
          · exact z_zret (pc := 141) d_FairText_readCommand_141 rfl
          · refine z_jp (fun j140 : zD → Option (Int32 × zD) => ∀ (D26 : zD), zGO K Y_FairText_readCommand 4 0 0 (zqI z) (j140  D26) 0 0 z D26 140 [] []) (fun  D26 => ?_) (fun j140 h140 => ?_)
            · refine z_iconst (pc := 140) d_FairText_readCommand_140 ki_0 ?_
              exact z_sub [] rfl (h141 (0 : Int32) D26)
            · refine z_aload_n (pc := 80) d_FairText_readCommand_80 rfl 0 rfl ?_
              refine z_iconst (pc := 81) d_FairText_readCommand_81 ki_0 ?_
              refine z_bipush (pc := 82) d_FairText_readCommand_82 kb_10 ?_
              refine z_bipush (pc := 84) d_FairText_readCommand_84 kb_70 ?_
              refine z_callVi (pc := 86) [.int (0 : Int32), .int (10 : Int32), .int (70 : Int32)] lkV_FairText_44 rfl (c_FairText_readTwo z D5 a (0 : Int32) (10 : Int32) (70 : Int32)) (by decide) rfl rfl (Nat.le_of_ble_eq_true rfl) d_FairText_readCommand_86 (fun v27 D28 => ?_)
              refine z_if_eq (pc := 89) (tgt := 140) d_FairText_readCommand_89 (by decide) ?_ ?_
              · exact z_sub [] rfl (h140 D28)
              · refine z_aload_n (pc := 92) d_FairText_readCommand_92 rfl 0 rfl ?_
                refine z_iconst (pc := 93) d_FairText_readCommand_93 ki_1 ?_
                refine z_bipush (pc := 94) d_FairText_readCommand_94 kb_10 ?_
                refine z_bipush (pc := 96) d_FairText_readCommand_96 kb_70 ?_
                refine z_callVi (pc := 98) [.int (1 : Int32), .int (10 : Int32), .int (70 : Int32)] lkV_FairText_44 rfl (c_FairText_readTwo z D28 a (1 : Int32) (10 : Int32) (70 : Int32)) (by decide) rfl rfl (Nat.le_of_ble_eq_true rfl) d_FairText_readCommand_98 (fun v29 D30 => ?_)
                refine z_if_eq (pc := 101) (tgt := 140) d_FairText_readCommand_101 (by decide) ?_ ?_
                · exact z_sub [] rfl (h140 D30)
                · refine z_aload_n (pc := 104) d_FairText_readCommand_104 rfl 0 rfl ?_
                  refine z_iconst (pc := 105) d_FairText_readCommand_105 ki_2 ?_
                  refine z_iconst (pc := 106) d_FairText_readCommand_106 ki_1 ?_
                  refine z_iconst (pc := 107) d_FairText_readCommand_107 ki_5 ?_
                  refine z_callVi (pc := 108) [.int (2 : Int32), .int (1 : Int32), .int (5 : Int32)] lkV_FairText_48 rfl (c_FairText_readOne z D30 a (2 : Int32) (1 : Int32) (5 : Int32)) (by decide) rfl rfl (Nat.le_of_ble_eq_true rfl) d_FairText_readCommand_108 (fun v31 D32 => ?_)
                  refine z_if_eq (pc := 111) (tgt := 140) d_FairText_readCommand_111 (by decide) ?_ ?_
                  · exact z_sub [] rfl (h140 D32)
                  · refine z_aload_n (pc := 114) d_FairText_readCommand_114 rfl 0 rfl ?_
                    refine z_iconst (pc := 115) d_FairText_readCommand_115 ki_3 ?_
                    refine z_iconst (pc := 116) d_FairText_readCommand_116 ki_0 ?_
                    refine z_bipush (pc := 117) d_FairText_readCommand_117 kb_6 ?_
                    refine z_callVi (pc := 119) [.int (3 : Int32), .int (0 : Int32), .int (6 : Int32)] lkV_FairText_48 rfl (c_FairText_readOne z D32 a (3 : Int32) (0 : Int32) (6 : Int32)) (by decide) rfl rfl (Nat.le_of_ble_eq_true rfl) d_FairText_readCommand_119 (fun v33 D34 => ?_)
                    refine z_if_eq (pc := 122) (tgt := 140) d_FairText_readCommand_122 (by decide) ?_ ?_
                    · exact z_sub [] rfl (h140 D34)
                    · refine z_aload_n (pc := 125) d_FairText_readCommand_125 rfl 0 rfl ?_
                      refine z_iconst (pc := 126) d_FairText_readCommand_126 ki_4 ?_
                      refine z_iconst (pc := 127) d_FairText_readCommand_127 ki_1 ?_
                      refine z_bipush (pc := 128) d_FairText_readCommand_128 kb_20 ?_
                      refine z_callVi (pc := 130) [.int (4 : Int32), .int (1 : Int32), .int (20 : Int32)] lkV_FairText_44 rfl (c_FairText_readTwo z D34 a (4 : Int32) (1 : Int32) (20 : Int32)) (by decide) rfl rfl (Nat.le_of_ble_eq_true rfl) d_FairText_readCommand_130 (fun v35 D36 => ?_)
                      refine z_if_eq (pc := 133) (tgt := 140) d_FairText_readCommand_133 (by decide) ?_ ?_
                      · exact z_sub [] rfl (h140 D36)
                      · refine z_iconst (pc := 136) d_FairText_readCommand_136 ki_1 ?_
                        refine z_goto (pc := 137) (tgt := 141) d_FairText_readCommand_137 (by decide) ?_
                        exact z_sub [] rfl (h141 (1 : Int32) D36)
        · refine z_case (fun e116 => ?_) (fun e116 => ?_)
          · refine z_lookup (pc := 22) (tgt := 256) d_FairText_readCommand_22 rfl (by rw [e116]) (by decide) ?_
            refine z_aload_n (pc := 256) d_FairText_readCommand_256 rfl 0 rfl ?_
            refine z_iconst (pc := 257) d_FairText_readCommand_257 ki_0 ?_
            refine z_iconst (pc := 258) d_FairText_readCommand_258 ki_1 ?_
            refine z_bipush (pc := 259) d_FairText_readCommand_259 kb_99 ?_
            refine z_callVi (pc := 261) [.int (0 : Int32), .int (1 : Int32), .int (99 : Int32)] lkV_FairText_44 rfl (c_FairText_readTwo z D5 a (0 : Int32) (1 : Int32) (99 : Int32)) (by decide) rfl rfl (Nat.le_of_ble_eq_true rfl) d_FairText_readCommand_261 (fun v37 D38 => ?_)
            exact z_zret (pc := 264) d_FairText_readCommand_264 rfl
          · refine z_case (fun e119 => ?_) (fun e119 => ?_)
            · refine z_lookup (pc := 22) (tgt := 190) d_FairText_readCommand_22 rfl (by rw [e119]) (by decide) ?_
              refine z_jp (fun j218 : Int32 → zD → Option (Int32 × zD) => ∀ (s0 : Int32) (D39 : zD), zGO K Y_FairText_readCommand 4 0 0 (zqI z) (j218 s0 D39) 0 0 z D39 218 [] [.int s0]) (fun s0 D39 => ?_) (fun j218 h218 => ?_)
              · exact z_zret (pc := 218) d_FairText_readCommand_218 rfl
              · refine z_jp (fun j217 : zD → Option (Int32 × zD) => ∀ (D40 : zD), zGO K Y_FairText_readCommand 4 0 0 (zqI z) (j217  D40) 0 0 z D40 217 [] []) (fun  D40 => ?_) (fun j217 h217 => ?_)
                · refine z_iconst (pc := 217) d_FairText_readCommand_217 ki_0 ?_
                  exact z_sub [] rfl (h218 (0 : Int32) D40)
                · refine z_aload_n (pc := 190) d_FairText_readCommand_190 rfl 0 rfl ?_
                  refine z_iconst (pc := 191) d_FairText_readCommand_191 ki_0 ?_
                  refine z_bipush (pc := 192) d_FairText_readCommand_192 kb_117 ?_
                  refine z_bipush (pc := 194) d_FairText_readCommand_194 kb_108 ?_
                  refine z_callVi (pc := 196) [.int (0 : Int32), .int (117 : Int32), .int (108 : Int32)] lkV_FairText_51 rfl (c_FairText_readEither z D5 a (0 : Int32) (117 : Int32) (108 : Int32)) (by decide) rfl rfl (Nat.le_of_ble_eq_true rfl) d_FairText_readCommand_196 (fun v41 D42 => ?_)
                  refine z_if_eq (pc := 199) (tgt := 217) d_FairText_readCommand_199 (by decide) ?_ ?_
                  · exact z_sub [] rfl (h217 D42)
                  · refine z_aload_n (pc := 202) d_FairText_readCommand_202 rfl 0 rfl ?_
                    refine z_iconst (pc := 203) d_FairText_readCommand_203 ki_1 ?_
                    refine z_iconst (pc := 204) d_FairText_readCommand_204 ki_0 ?_
                    refine z_bipush (pc := 205) d_FairText_readCommand_205 kb_80 ?_
                    refine z_callVi (pc := 207) [.int (1 : Int32), .int (0 : Int32), .int (80 : Int32)] lkV_FairText_44 rfl (c_FairText_readTwo z D42 a (1 : Int32) (0 : Int32) (80 : Int32)) (by decide) rfl rfl (Nat.le_of_ble_eq_true rfl) d_FairText_readCommand_207 (fun v43 D44 => ?_)
                    refine z_if_eq (pc := 210) (tgt := 217) d_FairText_readCommand_210 (by decide) ?_ ?_
                    · exact z_sub [] rfl (h217 D44)
                    · refine z_iconst (pc := 213) d_FairText_readCommand_213 ki_1 ?_
                      refine z_goto (pc := 214) (tgt := 218) d_FairText_readCommand_214 (by decide) ?_
                      exact z_sub [] rfl (h218 (1 : Int32) D44)
            · refine z_lookup (pc := 22) (off := 243) (tgt := 265) d_FairText_readCommand_22 rfl ((lv_osw e99 rfl).trans ((lv_osw e104 rfl).trans ((lv_osw e111 rfl).trans ((lv_osw e115 rfl).trans ((lv_osw e116 rfl).trans ((lv_osw e119 rfl).trans (rfl))))))) (by decide) ?_
              refine z_aload_n (pc := 265) d_FairText_readCommand_265 rfl 0 rfl ?_
              refine z_dup (pc := 266) d_FairText_readCommand_266 rfl ?_
              refine z_getI (pc := 267) fl_FairText_23 d_FairText_readCommand_267 (fun v45 => ?_)
              refine z_iconst (pc := 270) d_FairText_readCommand_270 ki_1 ?_
              refine z_isub (pc := 271) d_FairText_readCommand_271 ?_
              refine z_putI (pc := 272) fl_FairText_23 d_FairText_readCommand_272 (fun D46 => ?_)
              refine z_iconst (pc := 275) d_FairText_readCommand_275 ki_0 ?_
              exact z_zretK (pc := 276) d_FairText_readCommand_276 rfl (by decide)
theorem d_FairText_firstError_0 : decode Y_FairText_firstError.2.1 0 = .ok (.aload_n 0, 1) := by decide +kernel
theorem d_FairText_firstError_1 : decode Y_FairText_firstError.2.1 1 = .ok (.iconst (0), 1) := by decide +kernel
theorem d_FairText_firstError_2 : decode Y_FairText_firstError.2.1 2 = .ok (.putfield 23, 3) := by decide +kernel
theorem d_FairText_firstError_5 : decode Y_FairText_firstError.2.1 5 = .ok (.aload_n 0, 1) := by decide +kernel
theorem d_FairText_firstError_6 : decode Y_FairText_firstError.2.1 6 = .ok (.bipush (85), 2) := by decide +kernel
theorem d_FairText_firstError_8 : decode Y_FairText_firstError.2.1 8 = .ok (.invokevirtual 26, 3) := by decide +kernel
theorem d_FairText_firstError_11 : decode Y_FairText_firstError.2.1 11 = .ok (.ifCond .ne (8), 3) := by decide +kernel
theorem d_FairText_firstError_14 : decode Y_FairText_firstError.2.1 14 = .ok (.aload_n 0, 1) := by decide +kernel
theorem d_FairText_firstError_15 : decode Y_FairText_firstError.2.1 15 = .ok (.getfield 23, 3) := by decide +kernel
theorem d_FairText_firstError_18 : decode Y_FairText_firstError.2.1 18 = .ok (.ireturn, 1) := by decide +kernel
theorem d_FairText_firstError_19 : decode Y_FairText_firstError.2.1 19 = .ok (.aload_n 0, 1) := by decide +kernel
theorem d_FairText_firstError_20 : decode Y_FairText_firstError.2.1 20 = .ok (.invokevirtual 30, 3) := by decide +kernel
theorem d_FairText_firstError_23 : decode Y_FairText_firstError.2.1 23 = .ok (.iconst (1), 1) := by decide +kernel
theorem d_FairText_firstError_24 : decode Y_FairText_firstError.2.1 24 = .ok (.istore_n 1, 1) := by decide +kernel
theorem d_FairText_firstError_25 : decode Y_FairText_firstError.2.1 25 = .ok (.iconst (0), 1) := by decide +kernel
theorem d_FairText_firstError_26 : decode Y_FairText_firstError.2.1 26 = .ok (.istore_n 2, 1) := by decide +kernel
theorem d_FairText_firstError_27 : decode Y_FairText_firstError.2.1 27 = .ok (.iload_n 2, 1) := by decide +kernel
theorem d_FairText_firstError_28 : decode Y_FairText_firstError.2.1 28 = .ok (.bipush (120), 2) := by decide +kernel
theorem d_FairText_firstError_30 : decode Y_FairText_firstError.2.1 30 = .ok (.if_icmp .ge (29), 3) := by decide +kernel
theorem d_FairText_firstError_33 : decode Y_FairText_firstError.2.1 33 = .ok (.iload_n 1, 1) := by decide +kernel
theorem d_FairText_firstError_34 : decode Y_FairText_firstError.2.1 34 = .ok (.ifCond .eq (25), 3) := by decide +kernel
theorem d_FairText_firstError_37 : decode Y_FairText_firstError.2.1 37 = .ok (.aload_n 0, 1) := by decide +kernel
theorem d_FairText_firstError_38 : decode Y_FairText_firstError.2.1 38 = .ok (.getfield 23, 3) := by decide +kernel
theorem d_FairText_firstError_41 : decode Y_FairText_firstError.2.1 41 = .ok (.aload_n 0, 1) := by decide +kernel
theorem d_FairText_firstError_42 : decode Y_FairText_firstError.2.1 42 = .ok (.getfield 19, 3) := by decide +kernel
theorem d_FairText_firstError_45 : decode Y_FairText_firstError.2.1 45 = .ok (.if_icmp .ge (14), 3) := by decide +kernel
theorem d_FairText_firstError_48 : decode Y_FairText_firstError.2.1 48 = .ok (.aload_n 0, 1) := by decide +kernel
theorem d_FairText_firstError_49 : decode Y_FairText_firstError.2.1 49 = .ok (.invokevirtual 33, 3) := by decide +kernel
theorem d_FairText_firstError_52 : decode Y_FairText_firstError.2.1 52 = .ok (.istore_n 1, 1) := by decide +kernel
theorem d_FairText_firstError_53 : decode Y_FairText_firstError.2.1 53 = .ok (.iinc 2 (1), 3) := by decide +kernel
theorem d_FairText_firstError_56 : decode Y_FairText_firstError.2.1 56 = .ok (.goto (-29), 3) := by decide +kernel
theorem d_FairText_firstError_59 : decode Y_FairText_firstError.2.1 59 = .ok (.iload_n 1, 1) := by decide +kernel
theorem d_FairText_firstError_60 : decode Y_FairText_firstError.2.1 60 = .ok (.ifCond .eq (7), 3) := by decide +kernel
theorem d_FairText_firstError_63 : decode Y_FairText_firstError.2.1 63 = .ok (.iconst (-1), 1) := by decide +kernel
theorem d_FairText_firstError_64 : decode Y_FairText_firstError.2.1 64 = .ok (.goto (7), 3) := by decide +kernel
theorem d_FairText_firstError_67 : decode Y_FairText_firstError.2.1 67 = .ok (.aload_n 0, 1) := by decide +kernel
theorem d_FairText_firstError_68 : decode Y_FairText_firstError.2.1 68 = .ok (.getfield 23, 3) := by decide +kernel
theorem d_FairText_firstError_71 : decode Y_FairText_firstError.2.1 71 = .ok (.ireturn, 1) := by decide +kernel
def f_FairText_firstError (w : zW) (D : zD) (a : Nat) : Option (Int32 × zD) := zput w D 2 2 a (0 : Int32) (fun D1 => zobj w 2 a (zci (f_FairText_isNext w D1 a (85 : Int32)) (fun v2 D3 => (if v2 = 0 then zfld w D3 2 2 a (fun v14 => some (v14, D3)) else zjp (zlp (fun (_ : Int32) (_ : Int32) (_ : zD) => none) (fun (j27 : Int32 → Int32 → zD → Option (Int32 × zD)) (x1 : Int32) (x2 : Int32) (D4 : zD) => zjp (fun (x1 : Int32) (D5 : zD) => zjp (fun (s0 : Int32) (D6 : zD) => some (s0, D6)) (fun j71 => (if x1 = 0 then zfld w D5 2 2 a (fun v7 => j71 v7 D5) else j71 (-1 : Int32) D5))) (fun j59 => (if (120 : Int32) ≤ x2 then j59 x1 D4 else (if x1 = 0 then j59 x1 D4 else zfld w D4 2 2 a (fun v8 => zfld w D4 2 1 a (fun v9 => (if v9 ≤ v8 then j59 x1 D4 else zobj w 2 a (zci (f_FairText_readCommand w D4 a ) (fun v10 D11 => zlet (x2 + (1 : Int32)) (fun v12 => j27 v10 v12 D11)))))))))) zfuel) (fun j27 => zobj w 2 a (zcv (f_FairText_toFirstCommand w D3 a ) (fun D13 => j27 (1 : Int32) (0 : Int32) D13)))))))
set_option maxHeartbeats 4000000 in
set_option maxRecDepth 100000 in
theorem c_FairText_firstError (z : zT) (D : zD) (a : Nat) : zM Y_FairText_firstError 5 0 0 (zqI z) (f_FairText_firstError z.2 D a) [.ref a] z D := by
  refine zM_of (plainFor_of_name (by decide +kernel)) rfl (Nat.le_of_ble_eq_true rfl) (fun _ _ _ _ h => nomatch h.1) (fun K => ?_)
  unfold f_FairText_firstError
  refine z_aload_n (pc := 0) d_FairText_firstError_0 rfl 0 rfl ?_
  refine z_iconst (pc := 1) d_FairText_firstError_1 ki_0 ?_
  refine z_putI (pc := 2) fl_FairText_23 d_FairText_firstError_2 (fun D1 => ?_)
  refine z_aload_n (pc := 5) d_FairText_firstError_5 rfl 0 rfl ?_
  refine z_bipush (pc := 6) d_FairText_firstError_6 kb_85 ?_
  refine z_callVi (pc := 8) [.int (85 : Int32)] lkV_FairText_26 rfl (c_FairText_isNext z D1 a (85 : Int32)) (by decide) rfl rfl (Nat.le_of_ble_eq_true rfl) d_FairText_firstError_8 (fun v2 D3 => ?_)
  refine z_if_ne (pc := 11) (tgt := 19) d_FairText_firstError_11 (by decide) ?_ ?_
  · refine z_aload_n (pc := 14) d_FairText_firstError_14 rfl 0 rfl ?_
    refine z_getI (pc := 15) fl_FairText_23 d_FairText_firstError_15 (fun v14 => ?_)
    exact z_iret (pc := 18) d_FairText_firstError_18 rfl
  · refine z_jp (fun j27 : Int32 → Int32 → zD → Option (Int32 × zD) => ∀ (x1 : Int32) (x2 : Int32) (D4 : zD), zGO K Y_FairText_firstError 5 0 0 (zqI z) (j27 x1 x2 D4) 0 0 z D4 27 [(0, .ref a), (1, .int x1), (2, .int x2)] []) (z_lp (fun j27 : Int32 → Int32 → zD → Option (Int32 × zD) => ∀ (x1 : Int32) (x2 : Int32) (D4 : zD), zGO K Y_FairText_firstError 5 0 0 (zqI z) (j27 x1 x2 D4) 0 0 z D4 27 [(0, .ref a), (1, .int x1), (2, .int x2)] []) (fun _ _ _ => z_none) (fun j27 h27 x1 x2 D4 => ?_) zfuel) (fun j27 h27 => ?_)
    · refine z_jp (fun j59 : Int32 → zD → Option (Int32 × zD) => ∀ (x1 : Int32) (D5 : zD), zGO K Y_FairText_firstError 5 0 0 (zqI z) (j59 x1 D5) 0 0 z D5 59 [(0, .ref a), (1, .int x1)] []) (fun x1 D5 => ?_) (fun j59 h59 => ?_)
      · refine z_jp (fun j71 : Int32 → zD → Option (Int32 × zD) => ∀ (s0 : Int32) (D6 : zD), zGO K Y_FairText_firstError 5 0 0 (zqI z) (j71 s0 D6) 0 0 z D6 71 [] [.int s0]) (fun s0 D6 => ?_) (fun j71 h71 => ?_)
        · exact z_iret (pc := 71) d_FairText_firstError_71 rfl
        · refine z_iload_n (pc := 59) d_FairText_firstError_59 rfl 1 rfl ?_
          refine z_if_eq (pc := 60) (tgt := 67) d_FairText_firstError_60 (by decide) ?_ ?_
          · refine z_aload_n (pc := 67) d_FairText_firstError_67 rfl 0 rfl ?_
            refine z_getI (pc := 68) fl_FairText_23 d_FairText_firstError_68 (fun v7 => ?_)
            exact z_sub [] rfl (h71 v7 D5)
          · refine z_iconst (pc := 63) d_FairText_firstError_63 ki_m1 ?_
            refine z_goto (pc := 64) (tgt := 71) d_FairText_firstError_64 (by decide) ?_
            exact z_sub [] rfl (h71 (-1 : Int32) D5)
      · refine z_iload_n (pc := 27) d_FairText_firstError_27 rfl 2 rfl ?_
        refine z_bipush (pc := 28) d_FairText_firstError_28 kb_120 ?_
        refine z_icmp_ge (pc := 30) (tgt := 59) d_FairText_firstError_30 (by decide) ?_ ?_
        · exact z_sub [0, 1] rfl (h59 x1 D4)
        · refine z_iload_n (pc := 33) d_FairText_firstError_33 rfl 1 rfl ?_
          refine z_if_eq (pc := 34) (tgt := 59) d_FairText_firstError_34 (by decide) ?_ ?_
          · exact z_sub [0, 1] rfl (h59 x1 D4)
          · refine z_aload_n (pc := 37) d_FairText_firstError_37 rfl 0 rfl ?_
            refine z_getI (pc := 38) fl_FairText_23 d_FairText_firstError_38 (fun v8 => ?_)
            refine z_aload_n (pc := 41) d_FairText_firstError_41 rfl 0 rfl ?_
            refine z_getI (pc := 42) fl_FairText_19 d_FairText_firstError_42 (fun v9 => ?_)
            refine z_icmp_ge (pc := 45) (tgt := 59) d_FairText_firstError_45 (by decide) ?_ ?_
            · exact z_sub [0, 1] rfl (h59 x1 D4)
            · refine z_aload_n (pc := 48) d_FairText_firstError_48 rfl 0 rfl ?_
              refine z_callVi (pc := 49) [] lkV_FairText_33 rfl (c_FairText_readCommand z D4 a ) (by decide) rfl rfl (Nat.le_of_ble_eq_true rfl) d_FairText_firstError_49 (fun v10 D11 => ?_)
              refine z_istore_n (pc := 52) d_FairText_firstError_52 rfl (by decide) (lv' := [(1, .int v10), (0, .ref a), (2, .int x2)]) rfl ?_
              refine z_iincL (pc := 53) d_FairText_firstError_53 ki_1 2 rfl (by decide) (fun v12 => z_lvc (lv2 := [(2, .int v12), (1, .int v10), (0, .ref a)]) rfl ?_)
              refine z_goto (pc := 56) (tgt := 27) d_FairText_firstError_56 (by decide) ?_
              exact z_sub [2, 1, 0] rfl (h27 v10 v12 D11)
    · refine z_aload_n (pc := 19) d_FairText_firstError_19 rfl 0 rfl ?_
      refine z_callVv (pc := 20) [] lkV_FairText_30 rfl (c_FairText_toFirstCommand z D3 a ) (by decide) rfl rfl (Nat.le_of_ble_eq_true rfl) d_FairText_firstError_20 (fun D13 => ?_)
      refine z_iconst (pc := 23) d_FairText_firstError_23 ki_1 ?_
      refine z_istore_n (pc := 24) d_FairText_firstError_24 rfl (by decide) (lv' := [(1, .int (1 : Int32)), (0, .ref a)]) rfl ?_
      refine z_iconst (pc := 25) d_FairText_firstError_25 ki_0 ?_
      refine z_istore_n (pc := 26) d_FairText_firstError_26 rfl (by decide) (lv' := [(2, .int (0 : Int32)), (1, .int (1 : Int32)), (0, .ref a)]) rfl ?_
      exact z_sub [2, 1, 0] rfl (h27 (1 : Int32) (0 : Int32) D13)
