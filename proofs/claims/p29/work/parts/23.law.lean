theorem ks_11971 : (Int16.ofInt (11971)).toInt32 = (11971 : Int32) := by decide +kernel
def Y_LW_cell : zY := (⟨"SirenFairLaw", "cell", "([II)I"⟩, method_26_code, 2, some .int, [])
theorem w_k_LW_155 : Cond.constant "SirenFairLaw" 155 (2147483647) ∈ zWd := zin 495 (by decide +kernel) rfl
theorem w_k_LW_154 : Cond.constant "SirenFairLaw" 154 (15520039) ∈ zWd := zin 494 (by decide +kernel) rfl
def Y_LW_thrown : zY := (⟨"SirenFairLaw", "thrown", "(I)Z"⟩, method_27_code, 1, some .boolean, [])
def Y_LW_size : zY := (⟨"SirenFairLaw", "size", "(I)I"⟩, method_28_code, 1, some .int, [])
def Y_LW_call : zY := (⟨"SirenFairLaw", "call", "(LSirenFair;IIII)I"⟩, method_25_code, 5, some .int, [])
theorem w_cw_LW_tryAppend : Cond.codeWith Y_LW_tryAppend.1 Y_LW_tryAppend.2.1 Y_LW_tryAppend.2.2.1 Y_LW_tryAppend.2.2.2.1 Y_LW_tryAppend.2.2.2.2 ∈ zWd := zin 504 (by decide +kernel) rfl
theorem w_ini_LW : Cond.initialized "SirenFairLaw" ∈ zWd := zin 15 (by decide +kernel) rfl
theorem w_ml_LW_97 : Cond.methodLink "SirenFairLaw" 97 Y_LW_tryAppend.1 ∈ zWd := zin 502 (by decide +kernel) rfl
theorem w_st_LW_tryAppend : Cond.static Y_LW_tryAppend.1 ∈ zWd := zin 503 (by decide +kernel) rfl
theorem lkH_LW_97 : zlkH "SirenFairLaw" 97 Y_LW_tryAppend 2 := ⟨w_cw_LW_tryAppend, w_ini_LW, by decide +kernel, by decide +kernel, by decide, w_ml_LW_97, w_st_LW_tryAppend⟩
theorem w_cw_LW_tryLoad : Cond.codeWith Y_LW_tryLoad.1 Y_LW_tryLoad.2.1 Y_LW_tryLoad.2.2.1 Y_LW_tryLoad.2.2.2.1 Y_LW_tryLoad.2.2.2.2 ∈ zWd := zin 517 (by decide +kernel) rfl
theorem w_ml_LW_103 : Cond.methodLink "SirenFairLaw" 103 Y_LW_tryLoad.1 ∈ zWd := zin 515 (by decide +kernel) rfl
theorem w_st_LW_tryLoad : Cond.static Y_LW_tryLoad.1 ∈ zWd := zin 516 (by decide +kernel) rfl
theorem lkH_LW_103 : zlkH "SirenFairLaw" 103 Y_LW_tryLoad 1 := ⟨w_cw_LW_tryLoad, w_ini_LW, by decide +kernel, by decide +kernel, by decide, w_ml_LW_103, w_st_LW_tryLoad⟩
theorem w_cw_LW_tryAbout : Cond.codeWith Y_LW_tryAbout.1 Y_LW_tryAbout.2.1 Y_LW_tryAbout.2.2.1 Y_LW_tryAbout.2.2.2.1 Y_LW_tryAbout.2.2.2.2 ∈ zWd := zin 688 (by decide +kernel) rfl
theorem w_ml_LW_107 : Cond.methodLink "SirenFairLaw" 107 Y_LW_tryAbout.1 ∈ zWd := zin 686 (by decide +kernel) rfl
theorem w_st_LW_tryAbout : Cond.static Y_LW_tryAbout.1 ∈ zWd := zin 687 (by decide +kernel) rfl
theorem lkH_LW_107 : zlkH "SirenFairLaw" 107 Y_LW_tryAbout 2 := ⟨w_cw_LW_tryAbout, w_ini_LW, by decide +kernel, by decide +kernel, by decide, w_ml_LW_107, w_st_LW_tryAbout⟩
theorem w_cw_LW_trySiren : Cond.codeWith Y_LW_trySiren.1 Y_LW_trySiren.2.1 Y_LW_trySiren.2.2.1 Y_LW_trySiren.2.2.2.1 Y_LW_trySiren.2.2.2.2 ∈ zWd := zin 696 (by decide +kernel) rfl
theorem w_ml_LW_110 : Cond.methodLink "SirenFairLaw" 110 Y_LW_trySiren.1 ∈ zWd := zin 694 (by decide +kernel) rfl
theorem w_st_LW_trySiren : Cond.static Y_LW_trySiren.1 ∈ zWd := zin 695 (by decide +kernel) rfl
theorem lkH_LW_110 : zlkH "SirenFairLaw" 110 Y_LW_trySiren 3 := ⟨w_cw_LW_trySiren, w_ini_LW, by decide +kernel, by decide +kernel, by decide, w_ml_LW_110, w_st_LW_trySiren⟩
theorem w_cw_LW_tryHearer : Cond.codeWith Y_LW_tryHearer.1 Y_LW_tryHearer.2.1 Y_LW_tryHearer.2.2.1 Y_LW_tryHearer.2.2.2.1 Y_LW_tryHearer.2.2.2.2 ∈ zWd := zin 725 (by decide +kernel) rfl
theorem w_ml_LW_114 : Cond.methodLink "SirenFairLaw" 114 Y_LW_tryHearer.1 ∈ zWd := zin 723 (by decide +kernel) rfl
theorem w_st_LW_tryHearer : Cond.static Y_LW_tryHearer.1 ∈ zWd := zin 724 (by decide +kernel) rfl
theorem lkH_LW_114 : zlkH "SirenFairLaw" 114 Y_LW_tryHearer 3 := ⟨w_cw_LW_tryHearer, w_ini_LW, by decide +kernel, by decide +kernel, by decide, w_ml_LW_114, w_st_LW_tryHearer⟩
theorem w_cw_LW_tryWall : Cond.codeWith Y_LW_tryWall.1 Y_LW_tryWall.2.1 Y_LW_tryWall.2.2.1 Y_LW_tryWall.2.2.2.1 Y_LW_tryWall.2.2.2.2 ∈ zWd := zin 745 (by decide +kernel) rfl
theorem w_ml_LW_117 : Cond.methodLink "SirenFairLaw" 117 Y_LW_tryWall.1 ∈ zWd := zin 743 (by decide +kernel) rfl
theorem w_st_LW_tryWall : Cond.static Y_LW_tryWall.1 ∈ zWd := zin 744 (by decide +kernel) rfl
theorem lkH_LW_117 : zlkH "SirenFairLaw" 117 Y_LW_tryWall 3 := ⟨w_cw_LW_tryWall, w_ini_LW, by decide +kernel, by decide +kernel, by decide, w_ml_LW_117, w_st_LW_tryWall⟩
theorem w_cw_LW_tryPulse : Cond.codeWith Y_LW_tryPulse.1 Y_LW_tryPulse.2.1 Y_LW_tryPulse.2.2.1 Y_LW_tryPulse.2.2.2.1 Y_LW_tryPulse.2.2.2.2 ∈ zWd := zin 758 (by decide +kernel) rfl
theorem w_ml_LW_120 : Cond.methodLink "SirenFairLaw" 120 Y_LW_tryPulse.1 ∈ zWd := zin 756 (by decide +kernel) rfl
theorem w_st_LW_tryPulse : Cond.static Y_LW_tryPulse.1 ∈ zWd := zin 757 (by decide +kernel) rfl
theorem lkH_LW_120 : zlkH "SirenFairLaw" 120 Y_LW_tryPulse 3 := ⟨w_cw_LW_tryPulse, w_ini_LW, by decide +kernel, by decide +kernel, by decide, w_ml_LW_120, w_st_LW_tryPulse⟩
theorem w_cw_LW_tryHeard : Cond.codeWith Y_LW_tryHeard.1 Y_LW_tryHeard.2.1 Y_LW_tryHeard.2.2.1 Y_LW_tryHeard.2.2.2.1 Y_LW_tryHeard.2.2.2.2 ∈ zWd := zin 767 (by decide +kernel) rfl
theorem w_ml_LW_123 : Cond.methodLink "SirenFairLaw" 123 Y_LW_tryHeard.1 ∈ zWd := zin 765 (by decide +kernel) rfl
theorem w_st_LW_tryHeard : Cond.static Y_LW_tryHeard.1 ∈ zWd := zin 766 (by decide +kernel) rfl
theorem lkH_LW_123 : zlkH "SirenFairLaw" 123 Y_LW_tryHeard 4 := ⟨w_cw_LW_tryHeard, w_ini_LW, by decide +kernel, by decide +kernel, by decide, w_ml_LW_123, w_st_LW_tryHeard⟩
theorem w_cw_LW_tryWalk : Cond.codeWith Y_LW_tryWalk.1 Y_LW_tryWalk.2.1 Y_LW_tryWalk.2.2.1 Y_LW_tryWalk.2.2.2.1 Y_LW_tryWalk.2.2.2.2 ∈ zWd := zin 787 (by decide +kernel) rfl
theorem w_ml_LW_127 : Cond.methodLink "SirenFairLaw" 127 Y_LW_tryWalk.1 ∈ zWd := zin 785 (by decide +kernel) rfl
theorem w_st_LW_tryWalk : Cond.static Y_LW_tryWalk.1 ∈ zWd := zin 786 (by decide +kernel) rfl
theorem lkH_LW_127 : zlkH "SirenFairLaw" 127 Y_LW_tryWalk 4 := ⟨w_cw_LW_tryWalk, w_ini_LW, by decide +kernel, by decide +kernel, by decide, w_ml_LW_127, w_st_LW_tryWalk⟩
theorem w_cw_LW_tryTicks : Cond.codeWith Y_LW_tryTicks.1 Y_LW_tryTicks.2.1 Y_LW_tryTicks.2.2.1 Y_LW_tryTicks.2.2.2.1 Y_LW_tryTicks.2.2.2.2 ∈ zWd := zin 799 (by decide +kernel) rfl
theorem w_ml_LW_130 : Cond.methodLink "SirenFairLaw" 130 Y_LW_tryTicks.1 ∈ zWd := zin 797 (by decide +kernel) rfl
theorem w_st_LW_tryTicks : Cond.static Y_LW_tryTicks.1 ∈ zWd := zin 798 (by decide +kernel) rfl
theorem lkH_LW_130 : zlkH "SirenFairLaw" 130 Y_LW_tryTicks 2 := ⟨w_cw_LW_tryTicks, w_ini_LW, by decide +kernel, by decide +kernel, by decide, w_ml_LW_130, w_st_LW_tryTicks⟩
theorem w_cw_LW_tryLay : Cond.codeWith Y_LW_tryLay.1 Y_LW_tryLay.2.1 Y_LW_tryLay.2.2.1 Y_LW_tryLay.2.2.2.1 Y_LW_tryLay.2.2.2.2 ∈ zWd := zin 807 (by decide +kernel) rfl
theorem w_ml_LW_133 : Cond.methodLink "SirenFairLaw" 133 Y_LW_tryLay.1 ∈ zWd := zin 805 (by decide +kernel) rfl
theorem w_st_LW_tryLay : Cond.static Y_LW_tryLay.1 ∈ zWd := zin 806 (by decide +kernel) rfl
theorem lkH_LW_133 : zlkH "SirenFairLaw" 133 Y_LW_tryLay 3 := ⟨w_cw_LW_tryLay, w_ini_LW, by decide +kernel, by decide +kernel, by decide, w_ml_LW_133, w_st_LW_tryLay⟩
theorem w_cw_LW_tryUndo : Cond.codeWith Y_LW_tryUndo.1 Y_LW_tryUndo.2.1 Y_LW_tryUndo.2.2.1 Y_LW_tryUndo.2.2.2.1 Y_LW_tryUndo.2.2.2.2 ∈ zWd := zin 823 (by decide +kernel) rfl
theorem w_ml_LW_136 : Cond.methodLink "SirenFairLaw" 136 Y_LW_tryUndo.1 ∈ zWd := zin 821 (by decide +kernel) rfl
theorem w_st_LW_tryUndo : Cond.static Y_LW_tryUndo.1 ∈ zWd := zin 822 (by decide +kernel) rfl
theorem lkH_LW_136 : zlkH "SirenFairLaw" 136 Y_LW_tryUndo 1 := ⟨w_cw_LW_tryUndo, w_ini_LW, by decide +kernel, by decide +kernel, by decide, w_ml_LW_136, w_st_LW_tryUndo⟩
theorem w_cw_LW_tryIn : Cond.codeWith Y_LW_tryIn.1 Y_LW_tryIn.2.1 Y_LW_tryIn.2.2.1 Y_LW_tryIn.2.2.2.1 Y_LW_tryIn.2.2.2.2 ∈ zWd := zin 831 (by decide +kernel) rfl
theorem w_ml_LW_139 : Cond.methodLink "SirenFairLaw" 139 Y_LW_tryIn.1 ∈ zWd := zin 829 (by decide +kernel) rfl
theorem w_st_LW_tryIn : Cond.static Y_LW_tryIn.1 ∈ zWd := zin 830 (by decide +kernel) rfl
theorem lkH_LW_139 : zlkH "SirenFairLaw" 139 Y_LW_tryIn 4 := ⟨w_cw_LW_tryIn, w_ini_LW, by decide +kernel, by decide +kernel, by decide, w_ml_LW_139, w_st_LW_tryIn⟩
theorem w_cw_LW_tryWhen : Cond.codeWith Y_LW_tryWhen.1 Y_LW_tryWhen.2.1 Y_LW_tryWhen.2.2.1 Y_LW_tryWhen.2.2.2.1 Y_LW_tryWhen.2.2.2.2 ∈ zWd := zin 850 (by decide +kernel) rfl
theorem w_ml_LW_142 : Cond.methodLink "SirenFairLaw" 142 Y_LW_tryWhen.1 ∈ zWd := zin 848 (by decide +kernel) rfl
theorem w_st_LW_tryWhen : Cond.static Y_LW_tryWhen.1 ∈ zWd := zin 849 (by decide +kernel) rfl
theorem lkH_LW_142 : zlkH "SirenFairLaw" 142 Y_LW_tryWhen 3 := ⟨w_cw_LW_tryWhen, w_ini_LW, by decide +kernel, by decide +kernel, by decide, w_ml_LW_142, w_st_LW_tryWhen⟩
theorem w_cw_LW_tryLeast : Cond.codeWith Y_LW_tryLeast.1 Y_LW_tryLeast.2.1 Y_LW_tryLeast.2.2.1 Y_LW_tryLeast.2.2.2.1 Y_LW_tryLeast.2.2.2.2 ∈ zWd := zin 858 (by decide +kernel) rfl
theorem w_ml_LW_145 : Cond.methodLink "SirenFairLaw" 145 Y_LW_tryLeast.1 ∈ zWd := zin 856 (by decide +kernel) rfl
theorem w_st_LW_tryLeast : Cond.static Y_LW_tryLeast.1 ∈ zWd := zin 857 (by decide +kernel) rfl
theorem lkH_LW_145 : zlkH "SirenFairLaw" 145 Y_LW_tryLeast 2 := ⟨w_cw_LW_tryLeast, w_ini_LW, by decide +kernel, by decide +kernel, by decide, w_ml_LW_145, w_st_LW_tryLeast⟩
theorem w_cw_LW_tryKeep : Cond.codeWith Y_LW_tryKeep.1 Y_LW_tryKeep.2.1 Y_LW_tryKeep.2.2.1 Y_LW_tryKeep.2.2.2.1 Y_LW_tryKeep.2.2.2.2 ∈ zWd := zin 869 (by decide +kernel) rfl
theorem w_ml_LW_148 : Cond.methodLink "SirenFairLaw" 148 Y_LW_tryKeep.1 ∈ zWd := zin 867 (by decide +kernel) rfl
theorem w_st_LW_tryKeep : Cond.static Y_LW_tryKeep.1 ∈ zWd := zin 868 (by decide +kernel) rfl
theorem lkH_LW_148 : zlkH "SirenFairLaw" 148 Y_LW_tryKeep 2 := ⟨w_cw_LW_tryKeep, w_ini_LW, by decide +kernel, by decide +kernel, by decide, w_ml_LW_148, w_st_LW_tryKeep⟩
theorem w_cw_LW_tryBack : Cond.codeWith Y_LW_tryBack.1 Y_LW_tryBack.2.1 Y_LW_tryBack.2.2.1 Y_LW_tryBack.2.2.2.1 Y_LW_tryBack.2.2.2.2 ∈ zWd := zin 877 (by decide +kernel) rfl
theorem w_ml_LW_151 : Cond.methodLink "SirenFairLaw" 151 Y_LW_tryBack.1 ∈ zWd := zin 875 (by decide +kernel) rfl
theorem w_st_LW_tryBack : Cond.static Y_LW_tryBack.1 ∈ zWd := zin 876 (by decide +kernel) rfl
theorem lkH_LW_151 : zlkH "SirenFairLaw" 151 Y_LW_tryBack 2 := ⟨w_cw_LW_tryBack, w_ini_LW, by decide +kernel, by decide +kernel, by decide, w_ml_LW_151, w_st_LW_tryBack⟩
theorem d_LW_cell_0 : decode Y_LW_cell.2.1 0 = .ok (.iload_n 1, 1) := by decide +kernel
theorem d_LW_cell_1 : decode Y_LW_cell.2.1 1 = .ok (.aload_n 0, 1) := by decide +kernel
theorem d_LW_cell_2 : decode Y_LW_cell.2.1 2 = .ok (.arraylength, 1) := by decide +kernel
theorem d_LW_cell_3 : decode Y_LW_cell.2.1 3 = .ok (.if_icmp .ge (9), 3) := by decide +kernel
theorem d_LW_cell_6 : decode Y_LW_cell.2.1 6 = .ok (.aload_n 0, 1) := by decide +kernel
theorem d_LW_cell_7 : decode Y_LW_cell.2.1 7 = .ok (.iload_n 1, 1) := by decide +kernel
theorem d_LW_cell_8 : decode Y_LW_cell.2.1 8 = .ok (.iaload, 1) := by decide +kernel
theorem d_LW_cell_9 : decode Y_LW_cell.2.1 9 = .ok (.goto (13), 3) := by decide +kernel
theorem d_LW_cell_12 : decode Y_LW_cell.2.1 12 = .ok (.ldc 154, 2) := by decide +kernel
theorem d_LW_cell_14 : decode Y_LW_cell.2.1 14 = .ok (.iload_n 1, 1) := by decide +kernel
theorem d_LW_cell_15 : decode Y_LW_cell.2.1 15 = .ok (.iconst (3), 1) := by decide +kernel
theorem d_LW_cell_16 : decode Y_LW_cell.2.1 16 = .ok (.iadd, 1) := by decide +kernel
theorem d_LW_cell_17 : decode Y_LW_cell.2.1 17 = .ok (.imul, 1) := by decide +kernel
theorem d_LW_cell_18 : decode Y_LW_cell.2.1 18 = .ok (.sipush (11971), 3) := by decide +kernel
theorem d_LW_cell_21 : decode Y_LW_cell.2.1 21 = .ok (.iadd, 1) := by decide +kernel
theorem d_LW_cell_22 : decode Y_LW_cell.2.1 22 = .ok (.ldc 155, 2) := by decide +kernel
theorem d_LW_cell_24 : decode Y_LW_cell.2.1 24 = .ok (.iand, 1) := by decide +kernel
theorem d_LW_cell_25 : decode Y_LW_cell.2.1 25 = .ok (.ireturn, 1) := by decide +kernel
def f_LW_cell (w : zW) (D : zD) (r0 : Nat) (x1 : Int32) : Option (Int32 × zD) := zjp (fun (s0 : Int32) (D1 : zD) => some (s0 &&& (2147483647 : Int32), D1)) (fun j22 => zlen w 4 r0 (fun v2 => (if v2 ≤ x1 then j22 (((15520039 : Int32) * (x1 + (3 : Int32))) + (11971 : Int32)) D else zald w D 4 r0 x1 (fun v3 => j22 v3 D))))
set_option maxHeartbeats 4000000 in
set_option maxRecDepth 100000 in
theorem c_LW_cell (z : zT) (D : zD) (r0 : Nat) (x1 : Int32) : zM Y_LW_cell 1 0 0 (zqI z) (f_LW_cell z.2 D r0 x1) [.ref r0, .int x1] z D := by
  refine zM_of (plainFor_of_name (by decide +kernel)) rfl (Nat.le_of_ble_eq_true rfl) (fun _ _ _ _ h => nomatch h.1) (fun K => ?_)
  unfold f_LW_cell
  refine z_jp (fun j22 : Int32 → zD → Option (Int32 × zD) => ∀ (s0 : Int32) (D1 : zD), zGO K Y_LW_cell 1 0 0 (zqI z) (j22 s0 D1) 0 0 z D1 22 [] [.int s0]) (fun s0 D1 => ?_) (fun j22 h22 => ?_)
  · refine z_ldc (pc := 22) w_k_LW_155 d_LW_cell_22 ?_
    refine z_iand (pc := 24) d_LW_cell_24 ?_
    exact z_iret (pc := 25) d_LW_cell_25 rfl
  · refine z_iload_n (pc := 0) d_LW_cell_0 rfl 1 rfl ?_
    refine z_aload_n (pc := 1) d_LW_cell_1 rfl 0 rfl ?_
    refine z_alenR (pc := 2) d_LW_cell_2 (fun v2 => ?_)
    refine z_icmp_ge (pc := 3) (tgt := 12) d_LW_cell_3 (by decide) ?_ ?_
    · refine z_ldc (pc := 12) w_k_LW_154 d_LW_cell_12 ?_
      refine z_iload_n (pc := 14) d_LW_cell_14 rfl 1 rfl ?_
      refine z_iconst (pc := 15) d_LW_cell_15 ki_3 ?_
      refine z_iadd (pc := 16) d_LW_cell_16 ?_
      refine z_imul (pc := 17) d_LW_cell_17 ?_
      refine z_sipush (pc := 18) d_LW_cell_18 ks_11971 ?_
      refine z_iadd (pc := 21) d_LW_cell_21 ?_
      exact z_sub [] rfl (h22 (((15520039 : Int32) * (x1 + (3 : Int32))) + (11971 : Int32)) D)
    · refine z_aload_n (pc := 6) d_LW_cell_6 rfl 0 rfl ?_
      refine z_iload_n (pc := 7) d_LW_cell_7 rfl 1 rfl ?_
      refine z_ialoadR (pc := 8) d_LW_cell_8 (fun v3 => ?_)
      refine z_goto (pc := 9) (tgt := 22) d_LW_cell_9 (by decide) ?_
      exact z_sub [] rfl (h22 v3 D)
theorem d_LW_thrown_0 : decode Y_LW_thrown.2.1 0 = .ok (.iload_n 0, 1) := by decide +kernel
theorem d_LW_thrown_1 : decode Y_LW_thrown.2.1 1 = .ok (.ldc 33, 2) := by decide +kernel
theorem d_LW_thrown_3 : decode Y_LW_thrown.2.1 3 = .ok (.if_icmp .eq (15), 3) := by decide +kernel
theorem d_LW_thrown_6 : decode Y_LW_thrown.2.1 6 = .ok (.iload_n 0, 1) := by decide +kernel
theorem d_LW_thrown_7 : decode Y_LW_thrown.2.1 7 = .ok (.ldc 15, 2) := by decide +kernel
theorem d_LW_thrown_9 : decode Y_LW_thrown.2.1 9 = .ok (.if_icmp .eq (9), 3) := by decide +kernel
theorem d_LW_thrown_12 : decode Y_LW_thrown.2.1 12 = .ok (.iload_n 0, 1) := by decide +kernel
theorem d_LW_thrown_13 : decode Y_LW_thrown.2.1 13 = .ok (.ldc 18, 2) := by decide +kernel
theorem d_LW_thrown_15 : decode Y_LW_thrown.2.1 15 = .ok (.if_icmp .ne (7), 3) := by decide +kernel
theorem d_LW_thrown_18 : decode Y_LW_thrown.2.1 18 = .ok (.iconst (1), 1) := by decide +kernel
theorem d_LW_thrown_19 : decode Y_LW_thrown.2.1 19 = .ok (.goto (4), 3) := by decide +kernel
theorem d_LW_thrown_22 : decode Y_LW_thrown.2.1 22 = .ok (.iconst (0), 1) := by decide +kernel
theorem d_LW_thrown_23 : decode Y_LW_thrown.2.1 23 = .ok (.ireturn, 1) := by decide +kernel
def f_LW_thrown (w : zW) (D : zD) (x0 : Int32) : Option (Int32 × zD) := zjp (fun (s0 : Int32) (D1 : zD) => zchk (s0 = 0 ∨ s0 = 1) (some (s0, D1))) (fun j23 => zjp (fun (D2 : zD) => j23 (1 : Int32) D2) (fun j18 => (if x0 = (-9999001 : Int32) then j18 D else (if x0 = (-9999002 : Int32) then j18 D else (if x0 = (-9999003 : Int32) then j18 D else j23 (0 : Int32) D)))))
set_option maxHeartbeats 4000000 in
set_option maxRecDepth 100000 in
theorem c_LW_thrown (z : zT) (D : zD) (x0 : Int32) : zM Y_LW_thrown 1 0 0 (zqI z) (f_LW_thrown z.2 D x0) [.int x0] z D := by
  refine zM_of (plainFor_of_name (by decide +kernel)) rfl (Nat.le_of_ble_eq_true rfl) (fun _ _ _ _ h => nomatch h.1) (fun K => ?_)
  unfold f_LW_thrown
  refine z_jp (fun j23 : Int32 → zD → Option (Int32 × zD) => ∀ (s0 : Int32) (D1 : zD), zGO K Y_LW_thrown 1 0 0 (zqI z) (j23 s0 D1) 0 0 z D1 23 [] [.int s0]) (fun s0 D1 => ?_) (fun j23 h23 => ?_)
  · exact z_zret (pc := 23) d_LW_thrown_23 rfl
  · refine z_jp (fun j18 : zD → Option (Int32 × zD) => ∀ (D2 : zD), zGO K Y_LW_thrown 1 0 0 (zqI z) (j18  D2) 0 0 z D2 18 [] []) (fun  D2 => ?_) (fun j18 h18 => ?_)
    · refine z_iconst (pc := 18) d_LW_thrown_18 ki_1 ?_
      refine z_goto (pc := 19) (tgt := 23) d_LW_thrown_19 (by decide) ?_
      exact z_sub [] rfl (h23 (1 : Int32) D2)
    · refine z_iload_n (pc := 0) d_LW_thrown_0 rfl 0 rfl ?_
      refine z_ldc (pc := 1) w_k_LW_33 d_LW_thrown_1 ?_
      refine z_icmp_eq (pc := 3) (tgt := 18) d_LW_thrown_3 (by decide) ?_ ?_
      · exact z_sub [] rfl (h18 D)
      · refine z_iload_n (pc := 6) d_LW_thrown_6 rfl 0 rfl ?_
        refine z_ldc (pc := 7) w_k_LW_15 d_LW_thrown_7 ?_
        refine z_icmp_eq (pc := 9) (tgt := 18) d_LW_thrown_9 (by decide) ?_ ?_
        · exact z_sub [] rfl (h18 D)
        · refine z_iload_n (pc := 12) d_LW_thrown_12 rfl 0 rfl ?_
          refine z_ldc (pc := 13) w_k_LW_18 d_LW_thrown_13 ?_
          refine z_icmp_ne (pc := 15) (tgt := 22) d_LW_thrown_15 (by decide) ?_ ?_
          · exact z_sub [] rfl (h18 D)
          · refine z_iconst (pc := 22) d_LW_thrown_22 ki_0 ?_
            exact z_sub [] rfl (h23 (0 : Int32) D)
theorem d_LW_size_0 : decode Y_LW_size.2.1 0 = .ok (.iload_n 0, 1) := by decide +kernel
theorem d_LW_size_1 : decode Y_LW_size.2.1 1 = .ok (.ifCond .ge (8), 3) := by decide +kernel
theorem d_LW_size_4 : decode Y_LW_size.2.1 4 = .ok (.iload_n 0, 1) := by decide +kernel
theorem d_LW_size_5 : decode Y_LW_size.2.1 5 = .ok (.ineg, 1) := by decide +kernel
theorem d_LW_size_6 : decode Y_LW_size.2.1 6 = .ok (.goto (4), 3) := by decide +kernel
theorem d_LW_size_9 : decode Y_LW_size.2.1 9 = .ok (.iload_n 0, 1) := by decide +kernel
theorem d_LW_size_10 : decode Y_LW_size.2.1 10 = .ok (.ireturn, 1) := by decide +kernel
def f_LW_size (w : zW) (D : zD) (x0 : Int32) : Option (Int32 × zD) := zjp (fun (s0 : Int32) (D1 : zD) => some (s0, D1)) (fun j10 => (if 0 ≤ x0 then j10 x0 D else j10 (-x0) D))
set_option maxHeartbeats 4000000 in
set_option maxRecDepth 100000 in
theorem c_LW_size (z : zT) (D : zD) (x0 : Int32) : zM Y_LW_size 1 0 0 (zqI z) (f_LW_size z.2 D x0) [.int x0] z D := by
  refine zM_of (plainFor_of_name (by decide +kernel)) rfl (Nat.le_of_ble_eq_true rfl) (fun _ _ _ _ h => nomatch h.1) (fun K => ?_)
  unfold f_LW_size
  refine z_jp (fun j10 : Int32 → zD → Option (Int32 × zD) => ∀ (s0 : Int32) (D1 : zD), zGO K Y_LW_size 1 0 0 (zqI z) (j10 s0 D1) 0 0 z D1 10 [] [.int s0]) (fun s0 D1 => ?_) (fun j10 h10 => ?_)
  · exact z_iret (pc := 10) d_LW_size_10 rfl
  · refine z_iload_n (pc := 0) d_LW_size_0 rfl 0 rfl ?_
    refine z_if_ge (pc := 1) (tgt := 9) d_LW_size_1 (by decide) ?_ ?_
    · refine z_iload_n (pc := 9) d_LW_size_9 rfl 0 rfl ?_
      exact z_sub [] rfl (h10 x0 D)
    · refine z_iload_n (pc := 4) d_LW_size_4 rfl 0 rfl ?_
      refine z_ineg (pc := 5) d_LW_size_5 ?_
      refine z_goto (pc := 6) (tgt := 10) d_LW_size_6 (by decide) ?_
      exact z_sub [] rfl (h10 (-x0) D)
theorem d_LW_call_0 : decode Y_LW_call.2.1 0 = .ok (.iload_n 1, 1) := by decide +kernel
theorem d_LW_call_1 : decode Y_LW_call.2.1 1 = .ok (.tableswitch (188) 0 15 #[(79), (85), (90), (96), (103), (110), (117), (124), (133), (142), (148), (155), (160), (169), (176), (182)], 79) := by decide +kernel
theorem d_LW_call_80 : decode Y_LW_call.2.1 80 = .ok (.aload_n 0, 1) := by decide +kernel
theorem d_LW_call_81 : decode Y_LW_call.2.1 81 = .ok (.iload_n 2, 1) := by decide +kernel
theorem d_LW_call_82 : decode Y_LW_call.2.1 82 = .ok (.invokestatic 97, 3) := by decide +kernel
theorem d_LW_call_85 : decode Y_LW_call.2.1 85 = .ok (.ireturn, 1) := by decide +kernel
theorem d_LW_call_86 : decode Y_LW_call.2.1 86 = .ok (.aload_n 0, 1) := by decide +kernel
theorem d_LW_call_87 : decode Y_LW_call.2.1 87 = .ok (.invokestatic 103, 3) := by decide +kernel
theorem d_LW_call_90 : decode Y_LW_call.2.1 90 = .ok (.ireturn, 1) := by decide +kernel
theorem d_LW_call_91 : decode Y_LW_call.2.1 91 = .ok (.aload_n 0, 1) := by decide +kernel
theorem d_LW_call_92 : decode Y_LW_call.2.1 92 = .ok (.iload_n 2, 1) := by decide +kernel
theorem d_LW_call_93 : decode Y_LW_call.2.1 93 = .ok (.invokestatic 107, 3) := by decide +kernel
theorem d_LW_call_96 : decode Y_LW_call.2.1 96 = .ok (.ireturn, 1) := by decide +kernel
theorem d_LW_call_97 : decode Y_LW_call.2.1 97 = .ok (.aload_n 0, 1) := by decide +kernel
theorem d_LW_call_98 : decode Y_LW_call.2.1 98 = .ok (.iload_n 2, 1) := by decide +kernel
theorem d_LW_call_99 : decode Y_LW_call.2.1 99 = .ok (.iload_n 3, 1) := by decide +kernel
theorem d_LW_call_100 : decode Y_LW_call.2.1 100 = .ok (.invokestatic 110, 3) := by decide +kernel
theorem d_LW_call_103 : decode Y_LW_call.2.1 103 = .ok (.ireturn, 1) := by decide +kernel
theorem d_LW_call_104 : decode Y_LW_call.2.1 104 = .ok (.aload_n 0, 1) := by decide +kernel
theorem d_LW_call_105 : decode Y_LW_call.2.1 105 = .ok (.iload_n 2, 1) := by decide +kernel
theorem d_LW_call_106 : decode Y_LW_call.2.1 106 = .ok (.iload_n 3, 1) := by decide +kernel
theorem d_LW_call_107 : decode Y_LW_call.2.1 107 = .ok (.invokestatic 114, 3) := by decide +kernel
theorem d_LW_call_110 : decode Y_LW_call.2.1 110 = .ok (.ireturn, 1) := by decide +kernel
theorem d_LW_call_111 : decode Y_LW_call.2.1 111 = .ok (.aload_n 0, 1) := by decide +kernel
theorem d_LW_call_112 : decode Y_LW_call.2.1 112 = .ok (.iload_n 2, 1) := by decide +kernel
theorem d_LW_call_113 : decode Y_LW_call.2.1 113 = .ok (.iload_n 3, 1) := by decide +kernel
theorem d_LW_call_114 : decode Y_LW_call.2.1 114 = .ok (.invokestatic 117, 3) := by decide +kernel
theorem d_LW_call_117 : decode Y_LW_call.2.1 117 = .ok (.ireturn, 1) := by decide +kernel
theorem d_LW_call_118 : decode Y_LW_call.2.1 118 = .ok (.aload_n 0, 1) := by decide +kernel
theorem d_LW_call_119 : decode Y_LW_call.2.1 119 = .ok (.iload_n 2, 1) := by decide +kernel
theorem d_LW_call_120 : decode Y_LW_call.2.1 120 = .ok (.iload_n 3, 1) := by decide +kernel
theorem d_LW_call_121 : decode Y_LW_call.2.1 121 = .ok (.invokestatic 120, 3) := by decide +kernel
theorem d_LW_call_124 : decode Y_LW_call.2.1 124 = .ok (.ireturn, 1) := by decide +kernel
theorem d_LW_call_125 : decode Y_LW_call.2.1 125 = .ok (.aload_n 0, 1) := by decide +kernel
theorem d_LW_call_126 : decode Y_LW_call.2.1 126 = .ok (.iload_n 2, 1) := by decide +kernel
theorem d_LW_call_127 : decode Y_LW_call.2.1 127 = .ok (.iload_n 3, 1) := by decide +kernel
theorem d_LW_call_128 : decode Y_LW_call.2.1 128 = .ok (.iload 4, 2) := by decide +kernel
theorem d_LW_call_130 : decode Y_LW_call.2.1 130 = .ok (.invokestatic 123, 3) := by decide +kernel
theorem d_LW_call_133 : decode Y_LW_call.2.1 133 = .ok (.ireturn, 1) := by decide +kernel
theorem d_LW_call_134 : decode Y_LW_call.2.1 134 = .ok (.aload_n 0, 1) := by decide +kernel
theorem d_LW_call_135 : decode Y_LW_call.2.1 135 = .ok (.iload_n 2, 1) := by decide +kernel
theorem d_LW_call_136 : decode Y_LW_call.2.1 136 = .ok (.iload_n 3, 1) := by decide +kernel
theorem d_LW_call_137 : decode Y_LW_call.2.1 137 = .ok (.iload 4, 2) := by decide +kernel
theorem d_LW_call_139 : decode Y_LW_call.2.1 139 = .ok (.invokestatic 127, 3) := by decide +kernel
theorem d_LW_call_142 : decode Y_LW_call.2.1 142 = .ok (.ireturn, 1) := by decide +kernel
theorem d_LW_call_143 : decode Y_LW_call.2.1 143 = .ok (.aload_n 0, 1) := by decide +kernel
theorem d_LW_call_144 : decode Y_LW_call.2.1 144 = .ok (.iload_n 2, 1) := by decide +kernel
theorem d_LW_call_145 : decode Y_LW_call.2.1 145 = .ok (.invokestatic 130, 3) := by decide +kernel
theorem d_LW_call_148 : decode Y_LW_call.2.1 148 = .ok (.ireturn, 1) := by decide +kernel
theorem d_LW_call_149 : decode Y_LW_call.2.1 149 = .ok (.aload_n 0, 1) := by decide +kernel
theorem d_LW_call_150 : decode Y_LW_call.2.1 150 = .ok (.iload_n 2, 1) := by decide +kernel
theorem d_LW_call_151 : decode Y_LW_call.2.1 151 = .ok (.iload_n 3, 1) := by decide +kernel
theorem d_LW_call_152 : decode Y_LW_call.2.1 152 = .ok (.invokestatic 133, 3) := by decide +kernel
theorem d_LW_call_155 : decode Y_LW_call.2.1 155 = .ok (.ireturn, 1) := by decide +kernel
theorem d_LW_call_156 : decode Y_LW_call.2.1 156 = .ok (.aload_n 0, 1) := by decide +kernel
theorem d_LW_call_157 : decode Y_LW_call.2.1 157 = .ok (.invokestatic 136, 3) := by decide +kernel
theorem d_LW_call_160 : decode Y_LW_call.2.1 160 = .ok (.ireturn, 1) := by decide +kernel
theorem d_LW_call_161 : decode Y_LW_call.2.1 161 = .ok (.aload_n 0, 1) := by decide +kernel
theorem d_LW_call_162 : decode Y_LW_call.2.1 162 = .ok (.iload_n 2, 1) := by decide +kernel
theorem d_LW_call_163 : decode Y_LW_call.2.1 163 = .ok (.iload_n 3, 1) := by decide +kernel
theorem d_LW_call_164 : decode Y_LW_call.2.1 164 = .ok (.iload 4, 2) := by decide +kernel
theorem d_LW_call_166 : decode Y_LW_call.2.1 166 = .ok (.invokestatic 139, 3) := by decide +kernel
theorem d_LW_call_169 : decode Y_LW_call.2.1 169 = .ok (.ireturn, 1) := by decide +kernel
theorem d_LW_call_170 : decode Y_LW_call.2.1 170 = .ok (.aload_n 0, 1) := by decide +kernel
theorem d_LW_call_171 : decode Y_LW_call.2.1 171 = .ok (.iload_n 2, 1) := by decide +kernel
theorem d_LW_call_172 : decode Y_LW_call.2.1 172 = .ok (.iload_n 3, 1) := by decide +kernel
theorem d_LW_call_173 : decode Y_LW_call.2.1 173 = .ok (.invokestatic 142, 3) := by decide +kernel
theorem d_LW_call_176 : decode Y_LW_call.2.1 176 = .ok (.ireturn, 1) := by decide +kernel
theorem d_LW_call_177 : decode Y_LW_call.2.1 177 = .ok (.aload_n 0, 1) := by decide +kernel
theorem d_LW_call_178 : decode Y_LW_call.2.1 178 = .ok (.iload_n 2, 1) := by decide +kernel
theorem d_LW_call_179 : decode Y_LW_call.2.1 179 = .ok (.invokestatic 145, 3) := by decide +kernel
theorem d_LW_call_182 : decode Y_LW_call.2.1 182 = .ok (.ireturn, 1) := by decide +kernel
theorem d_LW_call_183 : decode Y_LW_call.2.1 183 = .ok (.aload_n 0, 1) := by decide +kernel
theorem d_LW_call_184 : decode Y_LW_call.2.1 184 = .ok (.iload_n 2, 1) := by decide +kernel
theorem d_LW_call_185 : decode Y_LW_call.2.1 185 = .ok (.invokestatic 148, 3) := by decide +kernel
theorem d_LW_call_188 : decode Y_LW_call.2.1 188 = .ok (.ireturn, 1) := by decide +kernel
theorem d_LW_call_189 : decode Y_LW_call.2.1 189 = .ok (.aload_n 0, 1) := by decide +kernel
theorem d_LW_call_190 : decode Y_LW_call.2.1 190 = .ok (.iload_n 2, 1) := by decide +kernel
theorem d_LW_call_191 : decode Y_LW_call.2.1 191 = .ok (.invokestatic 151, 3) := by decide +kernel
theorem d_LW_call_194 : decode Y_LW_call.2.1 194 = .ok (.ireturn, 1) := by decide +kernel
def f_LW_call (w : zW) (D : zD) (r0 : Nat) (x1 : Int32) (x2 : Int32) (x3 : Int32) (x4 : Int32) : Option (Int32 × zD) := (if x1 = (0 : Int32) then zci (f_LW_tryAppend w D r0 x2) (fun v1 D2 => some (v1, D2)) else (if x1 = (1 : Int32) then zci (f_LW_tryLoad w D r0) (fun v4 D5 => some (v4, D5)) else (if x1 = (2 : Int32) then zci (f_LW_tryAbout w D r0 x2) (fun v7 D8 => some (v7, D8)) else (if x1 = (3 : Int32) then zci (f_LW_trySiren w D r0 x2 x3) (fun v10 D11 => some (v10, D11)) else (if x1 = (4 : Int32) then zci (f_LW_tryHearer w D r0 x2 x3) (fun v13 D14 => some (v13, D14)) else (if x1 = (5 : Int32) then zci (f_LW_tryWall w D r0 x2 x3) (fun v16 D17 => some (v16, D17)) else (if x1 = (6 : Int32) then zci (f_LW_tryPulse w D r0 x2 x3) (fun v19 D20 => some (v19, D20)) else (if x1 = (7 : Int32) then zci (f_LW_tryHeard w D r0 x2 x3 x4) (fun v22 D23 => some (v22, D23)) else (if x1 = (8 : Int32) then zci (f_LW_tryWalk w D r0 x2 x3 x4) (fun v25 D26 => some (v25, D26)) else (if x1 = (9 : Int32) then zci (f_LW_tryTicks w D r0 x2) (fun v28 D29 => some (v28, D29)) else (if x1 = (10 : Int32) then zci (f_LW_tryLay w D r0 x2 x3) (fun v31 D32 => some (v31, D32)) else (if x1 = (11 : Int32) then zci (f_LW_tryUndo w D r0) (fun v34 D35 => some (v34, D35)) else (if x1 = (12 : Int32) then zci (f_LW_tryIn w D r0 x2 x3 x4) (fun v37 D38 => some (v37, D38)) else (if x1 = (13 : Int32) then zci (f_LW_tryWhen w D r0 x2 x3) (fun v40 D41 => some (v40, D41)) else (if x1 = (14 : Int32) then zci (f_LW_tryLeast w D r0 x2) (fun v43 D44 => some (v43, D44)) else (if x1 = (15 : Int32) then zci (f_LW_tryKeep w D r0 x2) (fun v46 D47 => some (v46, D47)) else zci (f_LW_tryBack w D r0 x2) (fun v49 D50 => some (v49, D50))))))))))))))))))
set_option maxHeartbeats 8000000 in
set_option maxRecDepth 100000 in
theorem c_LW_call (z : zT) (D : zD) (r0 : Nat) (x1 : Int32) (x2 : Int32) (x3 : Int32) (x4 : Int32) : zM Y_LW_call 10 1 6 (zqY z.2) (f_LW_call z.2 D r0 x1 x2 x3 x4) [.ref r0, .int x1, .int x2, .int x3, .int x4] z D := by
  refine zM_of (plainFor_of_name (by decide +kernel)) rfl (Nat.le_of_ble_eq_true rfl) (fun _ _ _ _ h => nomatch h.1) (fun K => ?_)
  obtain ⟨n0, w⟩ := z
  show zGO K Y_LW_call 10 1 6 (zqY w) (f_LW_call w D r0 x1 x2 x3 x4) 1 6 (n0, w) D 0 [(0, .ref r0), (1, .int x1), (2, .int x2), (3, .int x3), (4, .int x4)] []
  unfold f_LW_call
  refine z_iload_n (pc := 0) d_LW_call_0 rfl 1 rfl ?_
  refine z_case (fun e0 => ?_) (fun e0 => ?_)
  · refine z_tableIn (pc := 1) (tgt := 80) d_LW_call_1 e0 (by decide) (by decide) rfl (by decide) ?_
    refine z_aload_n (pc := 80) d_LW_call_80 rfl 0 rfl ?_
    refine z_iload_n (pc := 81) d_LW_call_81 rfl 2 rfl ?_
    refine z_callYH (pc := 82) (kc2 := 0) (ks2 := 0) [.ref r0, .int x2] lkH_LW_97 (c_LW_tryAppend (n0, w) D r0 x2) (by decide) (by omega) (by omega) rfl rfl (Nat.le_of_ble_eq_true rfl) d_LW_call_82 (fun v1 D2 m3 => ?_)
    exact z_yret (pc := 85) rfl d_LW_call_85 rfl
  · refine z_case (fun e1 => ?_) (fun e1 => ?_)
    · refine z_tableIn (pc := 1) (tgt := 86) d_LW_call_1 e1 (by decide) (by decide) rfl (by decide) ?_
      refine z_aload_n (pc := 86) d_LW_call_86 rfl 0 rfl ?_
      refine z_callYH (pc := 87) (kc2 := 0) (ks2 := 0) [.ref r0] lkH_LW_103 (c_LW_tryLoad (n0, w) D r0) (by decide) (by omega) (by omega) rfl rfl (Nat.le_of_ble_eq_true rfl) d_LW_call_87 (fun v4 D5 m6 => ?_)
      exact z_yret (pc := 90) rfl d_LW_call_90 rfl
    · refine z_case (fun e2 => ?_) (fun e2 => ?_)
      · refine z_tableIn (pc := 1) (tgt := 91) d_LW_call_1 e2 (by decide) (by decide) rfl (by decide) ?_
        refine z_aload_n (pc := 91) d_LW_call_91 rfl 0 rfl ?_
        refine z_iload_n (pc := 92) d_LW_call_92 rfl 2 rfl ?_
        refine z_callYH (pc := 93) (kc2 := 0) (ks2 := 0) [.ref r0, .int x2] lkH_LW_107 (c_LW_tryAbout (n0, w) D r0 x2) (by decide) (by omega) (by omega) rfl rfl (Nat.le_of_ble_eq_true rfl) d_LW_call_93 (fun v7 D8 m9 => ?_)
        exact z_yret (pc := 96) rfl d_LW_call_96 rfl
      · refine z_case (fun e3 => ?_) (fun e3 => ?_)
        · refine z_tableIn (pc := 1) (tgt := 97) d_LW_call_1 e3 (by decide) (by decide) rfl (by decide) ?_
          refine z_aload_n (pc := 97) d_LW_call_97 rfl 0 rfl ?_
          refine z_iload_n (pc := 98) d_LW_call_98 rfl 2 rfl ?_
          refine z_iload_n (pc := 99) d_LW_call_99 rfl 3 rfl ?_
          refine z_callYH (pc := 100) (kc2 := 0) (ks2 := 0) [.ref r0, .int x2, .int x3] lkH_LW_110 (c_LW_trySiren (n0, w) D r0 x2 x3) (by decide) (by omega) (by omega) rfl rfl (Nat.le_of_ble_eq_true rfl) d_LW_call_100 (fun v10 D11 m12 => ?_)
          exact z_yret (pc := 103) rfl d_LW_call_103 rfl
        · refine z_case (fun e4 => ?_) (fun e4 => ?_)
          · refine z_tableIn (pc := 1) (tgt := 104) d_LW_call_1 e4 (by decide) (by decide) rfl (by decide) ?_
            refine z_aload_n (pc := 104) d_LW_call_104 rfl 0 rfl ?_
            refine z_iload_n (pc := 105) d_LW_call_105 rfl 2 rfl ?_
            refine z_iload_n (pc := 106) d_LW_call_106 rfl 3 rfl ?_
            refine z_callYH (pc := 107) (kc2 := 0) (ks2 := 0) [.ref r0, .int x2, .int x3] lkH_LW_114 (c_LW_tryHearer (n0, w) D r0 x2 x3) (by decide) (by omega) (by omega) rfl rfl (Nat.le_of_ble_eq_true rfl) d_LW_call_107 (fun v13 D14 m15 => ?_)
            exact z_yret (pc := 110) rfl d_LW_call_110 rfl
          · refine z_case (fun e5 => ?_) (fun e5 => ?_)
            · refine z_tableIn (pc := 1) (tgt := 111) d_LW_call_1 e5 (by decide) (by decide) rfl (by decide) ?_
              refine z_aload_n (pc := 111) d_LW_call_111 rfl 0 rfl ?_
              refine z_iload_n (pc := 112) d_LW_call_112 rfl 2 rfl ?_
              refine z_iload_n (pc := 113) d_LW_call_113 rfl 3 rfl ?_
              refine z_callYH (pc := 114) (kc2 := 0) (ks2 := 0) [.ref r0, .int x2, .int x3] lkH_LW_117 (c_LW_tryWall (n0, w) D r0 x2 x3) (by decide) (by omega) (by omega) rfl rfl (Nat.le_of_ble_eq_true rfl) d_LW_call_114 (fun v16 D17 m18 => ?_)
              exact z_yret (pc := 117) rfl d_LW_call_117 rfl
            · refine z_case (fun e6 => ?_) (fun e6 => ?_)
              · refine z_tableIn (pc := 1) (tgt := 118) d_LW_call_1 e6 (by decide) (by decide) rfl (by decide) ?_
                refine z_aload_n (pc := 118) d_LW_call_118 rfl 0 rfl ?_
                refine z_iload_n (pc := 119) d_LW_call_119 rfl 2 rfl ?_
                refine z_iload_n (pc := 120) d_LW_call_120 rfl 3 rfl ?_
                refine z_callYH (pc := 121) (kc2 := 0) (ks2 := 0) [.ref r0, .int x2, .int x3] lkH_LW_120 (c_LW_tryPulse (n0, w) D r0 x2 x3) (by decide) (by omega) (by omega) rfl rfl (Nat.le_of_ble_eq_true rfl) d_LW_call_121 (fun v19 D20 m21 => ?_)
                exact z_yret (pc := 124) rfl d_LW_call_124 rfl
              · refine z_case (fun e7 => ?_) (fun e7 => ?_)
                · refine z_tableIn (pc := 1) (tgt := 125) d_LW_call_1 e7 (by decide) (by decide) rfl (by decide) ?_
                  refine z_aload_n (pc := 125) d_LW_call_125 rfl 0 rfl ?_
                  refine z_iload_n (pc := 126) d_LW_call_126 rfl 2 rfl ?_
                  refine z_iload_n (pc := 127) d_LW_call_127 rfl 3 rfl ?_
                  refine z_iload (pc := 128) d_LW_call_128 4 rfl ?_
                  refine z_callYH (pc := 130) (kc2 := 0) (ks2 := 0) [.ref r0, .int x2, .int x3, .int x4] lkH_LW_123 (c_LW_tryHeard (n0, w) D r0 x2 x3 x4) (by decide) (by omega) (by omega) rfl rfl (Nat.le_of_ble_eq_true rfl) d_LW_call_130 (fun v22 D23 m24 => ?_)
                  exact z_yret (pc := 133) rfl d_LW_call_133 rfl
                · refine z_case (fun e8 => ?_) (fun e8 => ?_)
                  · refine z_tableIn (pc := 1) (tgt := 134) d_LW_call_1 e8 (by decide) (by decide) rfl (by decide) ?_
                    refine z_aload_n (pc := 134) d_LW_call_134 rfl 0 rfl ?_
                    refine z_iload_n (pc := 135) d_LW_call_135 rfl 2 rfl ?_
                    refine z_iload_n (pc := 136) d_LW_call_136 rfl 3 rfl ?_
                    refine z_iload (pc := 137) d_LW_call_137 4 rfl ?_
                    refine z_callYH (pc := 139) (kc2 := 0) (ks2 := 0) [.ref r0, .int x2, .int x3, .int x4] lkH_LW_127 (c_LW_tryWalk (n0, w) D r0 x2 x3 x4) (by decide) (by omega) (by omega) rfl rfl (Nat.le_of_ble_eq_true rfl) d_LW_call_139 (fun v25 D26 m27 => ?_)
                    exact z_yret (pc := 142) rfl d_LW_call_142 rfl
                  · refine z_case (fun e9 => ?_) (fun e9 => ?_)
                    · refine z_tableIn (pc := 1) (tgt := 143) d_LW_call_1 e9 (by decide) (by decide) rfl (by decide) ?_
                      refine z_aload_n (pc := 143) d_LW_call_143 rfl 0 rfl ?_
                      refine z_iload_n (pc := 144) d_LW_call_144 rfl 2 rfl ?_
                      refine z_callYH (pc := 145) (kc2 := 0) (ks2 := 0) [.ref r0, .int x2] lkH_LW_130 (c_LW_tryTicks (n0, w) D r0 x2) (by decide) (by omega) (by omega) rfl rfl (Nat.le_of_ble_eq_true rfl) d_LW_call_145 (fun v28 D29 m30 => ?_)
                      exact z_yret (pc := 148) rfl d_LW_call_148 rfl
                    · refine z_case (fun e10 => ?_) (fun e10 => ?_)
                      · refine z_tableIn (pc := 1) (tgt := 149) d_LW_call_1 e10 (by decide) (by decide) rfl (by decide) ?_
                        refine z_aload_n (pc := 149) d_LW_call_149 rfl 0 rfl ?_
                        refine z_iload_n (pc := 150) d_LW_call_150 rfl 2 rfl ?_
                        refine z_iload_n (pc := 151) d_LW_call_151 rfl 3 rfl ?_
                        refine z_callYH (pc := 152) (kc2 := 0) (ks2 := 0) [.ref r0, .int x2, .int x3] lkH_LW_133 (c_LW_tryLay (n0, w) D r0 x2 x3) (by decide) (by omega) (by omega) rfl rfl (Nat.le_of_ble_eq_true rfl) d_LW_call_152 (fun v31 D32 m33 => ?_)
                        exact z_yret (pc := 155) rfl d_LW_call_155 rfl
                      · refine z_case (fun e11 => ?_) (fun e11 => ?_)
                        · refine z_tableIn (pc := 1) (tgt := 156) d_LW_call_1 e11 (by decide) (by decide) rfl (by decide) ?_
                          refine z_aload_n (pc := 156) d_LW_call_156 rfl 0 rfl ?_
                          refine z_callYH (pc := 157) (kc2 := 0) (ks2 := 0) [.ref r0] lkH_LW_136 (c_LW_tryUndo (n0, w) D r0) (by decide) (by omega) (by omega) rfl rfl (Nat.le_of_ble_eq_true rfl) d_LW_call_157 (fun v34 D35 m36 => ?_)
                          exact z_yret (pc := 160) rfl d_LW_call_160 rfl
                        · refine z_case (fun e12 => ?_) (fun e12 => ?_)
                          · refine z_tableIn (pc := 1) (tgt := 161) d_LW_call_1 e12 (by decide) (by decide) rfl (by decide) ?_
                            refine z_aload_n (pc := 161) d_LW_call_161 rfl 0 rfl ?_
                            refine z_iload_n (pc := 162) d_LW_call_162 rfl 2 rfl ?_
                            refine z_iload_n (pc := 163) d_LW_call_163 rfl 3 rfl ?_
                            refine z_iload (pc := 164) d_LW_call_164 4 rfl ?_
                            refine z_callYH (pc := 166) (kc2 := 0) (ks2 := 0) [.ref r0, .int x2, .int x3, .int x4] lkH_LW_139 (c_LW_tryIn (n0, w) D r0 x2 x3 x4) (by decide) (by omega) (by omega) rfl rfl (Nat.le_of_ble_eq_true rfl) d_LW_call_166 (fun v37 D38 m39 => ?_)
                            exact z_yret (pc := 169) rfl d_LW_call_169 rfl
                          · refine z_case (fun e13 => ?_) (fun e13 => ?_)
                            · refine z_tableIn (pc := 1) (tgt := 170) d_LW_call_1 e13 (by decide) (by decide) rfl (by decide) ?_
                              refine z_aload_n (pc := 170) d_LW_call_170 rfl 0 rfl ?_
                              refine z_iload_n (pc := 171) d_LW_call_171 rfl 2 rfl ?_
                              refine z_iload_n (pc := 172) d_LW_call_172 rfl 3 rfl ?_
                              refine z_callYH (pc := 173) (kc2 := 0) (ks2 := 0) [.ref r0, .int x2, .int x3] lkH_LW_142 (c_LW_tryWhen (n0, w) D r0 x2 x3) (by decide) (by omega) (by omega) rfl rfl (Nat.le_of_ble_eq_true rfl) d_LW_call_173 (fun v40 D41 m42 => ?_)
                              exact z_yret (pc := 176) rfl d_LW_call_176 rfl
                            · refine z_case (fun e14 => ?_) (fun e14 => ?_)
                              · refine z_tableIn (pc := 1) (tgt := 177) d_LW_call_1 e14 (by decide) (by decide) rfl (by decide) ?_
                                refine z_aload_n (pc := 177) d_LW_call_177 rfl 0 rfl ?_
                                refine z_iload_n (pc := 178) d_LW_call_178 rfl 2 rfl ?_
                                refine z_callYH (pc := 179) (kc2 := 0) (ks2 := 0) [.ref r0, .int x2] lkH_LW_145 (c_LW_tryLeast (n0, w) D r0 x2) (by decide) (by omega) (by omega) rfl rfl (Nat.le_of_ble_eq_true rfl) d_LW_call_179 (fun v43 D44 m45 => ?_)
                                exact z_yret (pc := 182) rfl d_LW_call_182 rfl
                              · refine z_case (fun e15 => ?_) (fun e15 => ?_)
                                · refine z_tableIn (pc := 1) (tgt := 183) d_LW_call_1 e15 (by decide) (by decide) rfl (by decide) ?_
                                  refine z_aload_n (pc := 183) d_LW_call_183 rfl 0 rfl ?_
                                  refine z_iload_n (pc := 184) d_LW_call_184 rfl 2 rfl ?_
                                  refine z_callYH (pc := 185) (kc2 := 0) (ks2 := 0) [.ref r0, .int x2] lkH_LW_148 (c_LW_tryKeep (n0, w) D r0 x2) (by decide) (by omega) (by omega) rfl rfl (Nat.le_of_ble_eq_true rfl) d_LW_call_185 (fun v46 D47 m48 => ?_)
                                  exact z_yret (pc := 188) rfl d_LW_call_188 rfl
                                · refine z_tableOut (pc := 1) (tgt := 189) d_LW_call_1 (by have g0 := z_neI e0 (n := 0) rfl; have g1 := z_neI e1 (n := 1) rfl; have g2 := z_neI e2 (n := 2) rfl; have g3 := z_neI e3 (n := 3) rfl; have g4 := z_neI e4 (n := 4) rfl; have g5 := z_neI e5 (n := 5) rfl; have g6 := z_neI e6 (n := 6) rfl; have g7 := z_neI e7 (n := 7) rfl; have g8 := z_neI e8 (n := 8) rfl; have g9 := z_neI e9 (n := 9) rfl; have g10 := z_neI e10 (n := 10) rfl; have g11 := z_neI e11 (n := 11) rfl; have g12 := z_neI e12 (n := 12) rfl; have g13 := z_neI e13 (n := 13) rfl; have g14 := z_neI e14 (n := 14) rfl; have g15 := z_neI e15 (n := 15) rfl; omega) (by decide) ?_
                                  refine z_aload_n (pc := 189) d_LW_call_189 rfl 0 rfl ?_
                                  refine z_iload_n (pc := 190) d_LW_call_190 rfl 2 rfl ?_
                                  refine z_callYH (pc := 191) (kc2 := 0) (ks2 := 0) [.ref r0, .int x2] lkH_LW_151 (c_LW_tryBack (n0, w) D r0 x2) (by decide) (by omega) (by omega) rfl rfl (Nat.le_of_ble_eq_true rfl) d_LW_call_191 (fun v49 D50 m51 => ?_)
                                  exact z_yret (pc := 194) rfl d_LW_call_194 rfl
