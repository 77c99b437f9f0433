section P36
variable {A : Prop} {w : zW} {a b ns nh nw t te tp np d e l c : Nat} {D : zD} {F G : Nat → Nat → Int32}
theorem walk1 (hL : LF w a) (hb : w.1 b = some (.inl (0, 521))) (h : RI F G ns nh nw t te tp A np d e l c) {k : Nat} (hk : k < nh) : ∃ F' G', RI F' G' ns nh nw t te tp A np d e l c ∧ (∀ D j, S_Hearers_walkOn_S1 w (a + 9) j (nI k) (zblk D a F) = j (nI (k + 1)) (zblk D a F')) ∧ (∀ D j, S_MD_tick_S2 w b j (nI k) (zset D b (vec G)) = j (nI (k + 1)) (zset D b (vec G'))) := by
  obtain ⟨h1, -, -, -, i0, -, hH, -⟩ := id h
  obtain ⟨-, -, e1, hn, -⟩ := i0
  have hk4 : k < 4 := by omega
  have hF1 : F 9 6 = nI nh := by rw [r9_6 h1, e1]
  have hc : ¬ nI nh ≤ nI k := by rw [nI_leI (by omega) (by omega)]; omega
  have hr := hH k hk
  refine ⟨_, _, RI_h4 h (k := k) (x := xx (G 10 k) (G 12 k)) (y := xx (G 11 k) (G 13 k)) (vx := vv (G 10 k) (G 12 k)) (vy := vv (G 11 k) (G 13 k)) ?_, ?_, ?_⟩
  · exact ⟨xx_rg.1, xx_rg.2, xx_rg.1, xx_rg.2, (vv_rg ⟨hr.2.2.2.2.1, hr.2.2.2.2.2.1⟩).1, (vv_rg ⟨hr.2.2.2.2.1, hr.2.2.2.2.2.1⟩).2, (vv_rg hr.2.2.2.2.2.2).1, (vv_rg hr.2.2.2.2.2.2).2⟩
  · intro D j
    rw [e_walk1 hL hk4 hF1 hn hk, r10 h1 hk4, r11 h1 hk4, r12 h1 hk4, r13 h1 hk4]
  · intro D j
    unfold S_MD_tick_S2
    have hw0 := @e_walks0 w b D G hb k hk4 ⟨hr.1, hr.2.1, hr.2.2.2.2.1, hr.2.2.2.2.2.1⟩
    have hw1 := @e_walks1 w b D (upd2 (upd2 G 12 k (vv (G 10 k) (G 12 k))) 10 k (xx (G 10 k) (G 12 k))) hb k hk4 (by simp (disch := omega) only [upd2_o]; exact ⟨hr.2.2.1, hr.2.2.2.1, hr.2.2.2.2.2.2.1, hr.2.2.2.2.2.2.2⟩)
    simp (disch := omega) only [upd2_o] at hw1
    simp (disch := omega) only [zjpE, zletE, zciE, zcvE, zchkE, nI_1, Mrc0 hb, Mwc0 hb, Mrc1 hb, Mwc1 hb, Mrc2 hb, Mwc2 hb, Mrc3 hb, Mwc3 hb, Mrc4 hb, Mwc4 hb, Mrc5 hb, Mwc5 hb, Mrc6 hb, Mwc6 hb, Mrc7 hb, Mwc7 hb, Mrc8 hb, Mwc8 hb, Mrc9 hb, Mwc9 hb, Mrc10 hb, Mwc10 hb, Mrs hb, Mws hb, Mrs0 hb, Mws0 hb, Mrs1 hb, Mws1 hb, Mrs2 hb, Mws2 hb, Mrs3 hb, Mws3 hb, Mrs4 hb, Mws4 hb, Mrs5 hb, Mws5 hb, Mrs6 hb, Mws6 hb, Mrh hb, Mwh hb, Mrh0 hb, Mwh0 hb, Mrh1 hb, Mwh1 hb, Mrh2 hb, Mwh2 hb, Mrh3 hb, Mwh3 hb, Mrh4 hb, Mwh4 hb, Mrw hb, Mww hb, Mrw0 hb, Mww0 hb, Mrw1 hb, Mww1 hb, Mre hb, Mwe hb, Mre0 hb, Mwe0 hb, Mre1 hb, Mwe1 hb, Mre2 hb, Mwe2 hb, Mre3 hb, Mwe3 hb, Mre4 hb, Mwe4 hb, Mre5 hb, Mwe5 hb, Mrp hb, Mwp hb, Mrp0 hb, Mwp0 hb, Mrp1 hb, Mwp1 hb, Mrp2 hb, Mwp2 hb, Mrp3 hb, Mwp3 hb, Mrp4 hb, Mwp4 hb, Mrp5 hb, Mwp5 hb, Mrk0 hb, Mwk0 hb, Mrk1 hb, Mwk1 hb, Mrx hb, Mwx hb, Mrx0 hb, Mwx0 hb, Mrx1 hb, Mwx1 hb, Mrx2 hb, Mwx2 hb, Mrx3 hb, Mwx3 hb, Mrx4 hb, Mwx4 hb, Mrx5 hb, Mwx5 hb, Mrt0 hb, Mwt0 hb, Mrt1 hb, Mwt1 hb, e1, hc, if_false, hw0, hw1]
    rw [upd2_comm (o := 10) (o' := 13) (by decide)]
theorem ph1 (hL : LF w a) (hb : w.1 b = some (.inl (0, 521))) (h : RI F G ns nh nw t te tp A np d e l c) : ∃ F' G', RI F' G' ns nh nw t te tp A np d e l c ∧ (∀ D, f_Sirens_goOn w (zblk D a F) (a + 1) = some (zblk D a F')) ∧ (∀ D, zlp (fun (_ : Int32) (_ : zD) => none) (S_MD_tick_S1 w b) zfuel 0 (zset D b (vec G)) = zlp (fun (_ : Int32) (_ : zD) => none) (S_MD_tick_S2 w b) zfuel 0 (zset D b (vec G'))) := by
  obtain ⟨-, -, -, -, ⟨-, hn, -⟩, -⟩ := id h
  obtain ⟨s, hs, q1, q2⟩ := lpG2 (bot := fun (_ : Int32) (_ : zD) => none) (st := S_Sirens_goOn_S1 w (a + 1)) (bot' := fun (_ : Int32) (_ : zD) => none) (st' := S_MD_tick_S1 w b) (n := ns) (fun _ s => RI s.1 s.2 ns nh nw t te tp A np d e l c) (fun D g k s => g (nI k) (zblk D a s.1)) (fun D g k s => g (nI k) (zset D b (vec s.2))) (by
    intro k s hk hs
    obtain ⟨F', G', r1, r2, r3⟩ := go1 hL hb hs hk
    exact ⟨(F', G'), r1, r2, r3⟩) ns 0 (F, G) (by omega) h
  obtain ⟨h1, -, -, -, ⟨e1, -⟩, -⟩ := id hs
  refine ⟨s.1, s.2, hs, ?_, ?_⟩
  · intro D
    obtain ⟨j, hj⟩ := q1 D zfuel (by unfold zfuel; omega)
    rw [u_Sirens_goOn]
    simp only [zjp]
    refine hj.trans ?_
    unfold S_Sirens_goOn_S1
    simp only [Lo0 hL, Lr0_0 hL, Lr0_1 hL, Lr0_2 hL, Lr0_3 hL, Lr0_4 hL, Lg0_5 hL, Lp0_5 hL, Lg0_6 hL, Lp0_6 hL, Lg0_7 hL, Lp0_7 hL, Lg0_8 hL, Lp0_8 hL, Lo1 hL, Lr1_0 hL, Lr1_1 hL, Lr1_2 hL, Lr1_3 hL, Lr1_4 hL, Lr1_5 hL, Lr1_6 hL, Lg1_7 hL, Lp1_7 hL, Lo9 hL, Lr9_0 hL, Lr9_1 hL, Lr9_2 hL, Lr9_3 hL, Lr9_4 hL, Lr9_5 hL, Lg9_6 hL, Lp9_6 hL, Lg9_7 hL, Lp9_7 hL, Lo16 hL, Lr16_0 hL, Lr16_1 hL, Lg16_2 hL, Lp16_2 hL, Lo19 hL, Lr19_0 hL, Lr19_1 hL, Lr19_2 hL, Lr19_3 hL, Lr19_4 hL, Lr19_5 hL, Lg19_6 hL, Lp19_6 hL, Lg19_7 hL, Lp19_7 hL, Lo26 hL, Lr26_0 hL, Lr26_1 hL, Lr26_2 hL, Lr26_3 hL, Lr26_4 hL, Lr26_5 hL, Lg26_6 hL, Lp26_6 hL, Lg26_7 hL, Lp26_7 hL, Lg26_8 hL, Lp26_8 hL, La2 hL, Ls2 hL, La3 hL, Ls3 hL, La4 hL, Ls4 hL, La5 hL, Ls5 hL, La6 hL, Ls6 hL, La7 hL, Ls7 hL, La8 hL, Ls8 hL, La10 hL, Ls10 hL, La11 hL, Ls11 hL, La12 hL, Ls12 hL, La13 hL, Ls13 hL, La14 hL, Ls14 hL, La15 hL, Ls15 hL, La17 hL, Ls17 hL, La18 hL, Ls18 hL, La20 hL, Ls20 hL, La21 hL, Ls21 hL, La22 hL, Ls22 hL, La23 hL, Ls23 hL, La24 hL, Ls24 hL, La25 hL, Ls25 hL, La27 hL, Ls27 hL, La28 hL, Ls28 hL, La29 hL, Ls29 hL, La30 hL, Ls30 hL, La31 hL, Ls31 hL, La32 hL, Ls32 hL, r1_7 h1, e1, nI_le (Nat.le_refl ns) (show ns < 2 ^ 31 by omega), if_true]
  · intro D
    obtain ⟨j, hj⟩ := q2 D zfuel (by unfold zfuel; omega)
    refine hj.trans ?_
    unfold S_MD_tick_S1
    simp only [Mrc0 hb, Mwc0 hb, Mrc1 hb, Mwc1 hb, Mrc2 hb, Mwc2 hb, Mrc3 hb, Mwc3 hb, Mrc4 hb, Mwc4 hb, Mrc5 hb, Mwc5 hb, Mrc6 hb, Mwc6 hb, Mrc7 hb, Mwc7 hb, Mrc8 hb, Mwc8 hb, Mrc9 hb, Mwc9 hb, Mrc10 hb, Mwc10 hb, Mrs hb, Mws hb, Mrs0 hb, Mws0 hb, Mrs1 hb, Mws1 hb, Mrs2 hb, Mws2 hb, Mrs3 hb, Mws3 hb, Mrs4 hb, Mws4 hb, Mrs5 hb, Mws5 hb, Mrs6 hb, Mws6 hb, Mrh hb, Mwh hb, Mrh0 hb, Mwh0 hb, Mrh1 hb, Mwh1 hb, Mrh2 hb, Mwh2 hb, Mrh3 hb, Mwh3 hb, Mrh4 hb, Mwh4 hb, Mrw hb, Mww hb, Mrw0 hb, Mww0 hb, Mrw1 hb, Mww1 hb, Mre hb, Mwe hb, Mre0 hb, Mwe0 hb, Mre1 hb, Mwe1 hb, Mre2 hb, Mwe2 hb, Mre3 hb, Mwe3 hb, Mre4 hb, Mwe4 hb, Mre5 hb, Mwe5 hb, Mrp hb, Mwp hb, Mrp0 hb, Mwp0 hb, Mrp1 hb, Mwp1 hb, Mrp2 hb, Mwp2 hb, Mrp3 hb, Mwp3 hb, Mrp4 hb, Mwp4 hb, Mrp5 hb, Mwp5 hb, Mrk0 hb, Mwk0 hb, Mrk1 hb, Mwk1 hb, Mrx hb, Mwx hb, Mrx0 hb, Mwx0 hb, Mrx1 hb, Mwx1 hb, Mrx2 hb, Mwx2 hb, Mrx3 hb, Mwx3 hb, Mrx4 hb, Mwx4 hb, Mrx5 hb, Mwx5 hb, Mrt0 hb, Mwt0 hb, Mrt1 hb, Mwt1 hb, zjpE, zletE, zciE, zcvE, zchkE, nI_1, e1, nI_le (Nat.le_refl ns) (show ns < 2 ^ 31 by omega), if_true]
theorem ph2 (hL : LF w a) (hb : w.1 b = some (.inl (0, 521))) (h : RI F G ns nh nw t te tp A np d e l c) : ∃ F' G', RI F' G' ns nh nw t te tp A np d e l c ∧ (∀ D, f_Hearers_walkOn w (zblk D a F) (a + 9) = some (zblk D a F')) ∧ (∀ D, zlp (fun (_ : Int32) (_ : zD) => none) (S_MD_tick_S2 w b) zfuel 0 (zset D b (vec G)) = zlp (fun (_ : Int32) (_ : zD) => none) (S_MD_tick_S3 w b) zfuel 0 (zset D b (vec G'))) := by
  obtain ⟨-, -, -, -, ⟨-, -, -, hn, -⟩, -⟩ := id h
  obtain ⟨s, hs, q1, q2⟩ := lpG2 (bot := fun (_ : Int32) (_ : zD) => none) (st := S_Hearers_walkOn_S1 w (a + 9)) (bot' := fun (_ : Int32) (_ : zD) => none) (st' := S_MD_tick_S2 w b) (n := nh) (fun _ s => RI s.1 s.2 ns nh nw t te tp A np d e l c) (fun D g k s => g (nI k) (zblk D a s.1)) (fun D g k s => g (nI k) (zset D b (vec s.2))) (by
    intro k s hk hs
    obtain ⟨F', G', r1, r2, r3⟩ := walk1 hL hb hs hk
    exact ⟨(F', G'), r1, r2, r3⟩) nh 0 (F, G) (by omega) h
  obtain ⟨h1, -, -, -, ⟨-, -, e1, -⟩, -⟩ := id hs
  refine ⟨s.1, s.2, hs, ?_, ?_⟩
  · intro D
    obtain ⟨j, hj⟩ := q1 D zfuel (by unfold zfuel; omega)
    rw [u_Hearers_walkOn]
    simp only [zjp]
    refine hj.trans ?_
    unfold S_Hearers_walkOn_S1
    simp only [Lo0 hL, Lr0_0 hL, Lr0_1 hL, Lr0_2 hL, Lr0_3 hL, Lr0_4 hL, Lg0_5 hL, Lp0_5 hL, Lg0_6 hL, Lp0_6 hL, Lg0_7 hL, Lp0_7 hL, Lg0_8 hL, Lp0_8 hL, Lo1 hL, Lr1_0 hL, Lr1_1 hL, Lr1_2 hL, Lr1_3 hL, Lr1_4 hL, Lr1_5 hL, Lr1_6 hL, Lg1_7 hL, Lp1_7 hL, Lo9 hL, Lr9_0 hL, Lr9_1 hL, Lr9_2 hL, Lr9_3 hL, Lr9_4 hL, Lr9_5 hL, Lg9_6 hL, Lp9_6 hL, Lg9_7 hL, Lp9_7 hL, Lo16 hL, Lr16_0 hL, Lr16_1 hL, Lg16_2 hL, Lp16_2 hL, Lo19 hL, Lr19_0 hL, Lr19_1 hL, Lr19_2 hL, Lr19_3 hL, Lr19_4 hL, Lr19_5 hL, Lg19_6 hL, Lp19_6 hL, Lg19_7 hL, Lp19_7 hL, Lo26 hL, Lr26_0 hL, Lr26_1 hL, Lr26_2 hL, Lr26_3 hL, Lr26_4 hL, Lr26_5 hL, Lg26_6 hL, Lp26_6 hL, Lg26_7 hL, Lp26_7 hL, Lg26_8 hL, Lp26_8 hL, La2 hL, Ls2 hL, La3 hL, Ls3 hL, La4 hL, Ls4 hL, La5 hL, Ls5 hL, La6 hL, Ls6 hL, La7 hL, Ls7 hL, La8 hL, Ls8 hL, La10 hL, Ls10 hL, La11 hL, Ls11 hL, La12 hL, Ls12 hL, La13 hL, Ls13 hL, La14 hL, Ls14 hL, La15 hL, Ls15 hL, La17 hL, Ls17 hL, La18 hL, Ls18 hL, La20 hL, Ls20 hL, La21 hL, Ls21 hL, La22 hL, Ls22 hL, La23 hL, Ls23 hL, La24 hL, Ls24 hL, La25 hL, Ls25 hL, La27 hL, Ls27 hL, La28 hL, Ls28 hL, La29 hL, Ls29 hL, La30 hL, Ls30 hL, La31 hL, Ls31 hL, La32 hL, Ls32 hL, r9_6 h1, e1, nI_le (Nat.le_refl nh) (show nh < 2 ^ 31 by omega), if_true]
  · intro D
    obtain ⟨j, hj⟩ := q2 D zfuel (by unfold zfuel; omega)
    refine hj.trans ?_
    unfold S_MD_tick_S2
    simp only [Mrc0 hb, Mwc0 hb, Mrc1 hb, Mwc1 hb, Mrc2 hb, Mwc2 hb, Mrc3 hb, Mwc3 hb, Mrc4 hb, Mwc4 hb, Mrc5 hb, Mwc5 hb, Mrc6 hb, Mwc6 hb, Mrc7 hb, Mwc7 hb, Mrc8 hb, Mwc8 hb, Mrc9 hb, Mwc9 hb, Mrc10 hb, Mwc10 hb, Mrs hb, Mws hb, Mrs0 hb, Mws0 hb, Mrs1 hb, Mws1 hb, Mrs2 hb, Mws2 hb, Mrs3 hb, Mws3 hb, Mrs4 hb, Mws4 hb, Mrs5 hb, Mws5 hb, Mrs6 hb, Mws6 hb, Mrh hb, Mwh hb, Mrh0 hb, Mwh0 hb, Mrh1 hb, Mwh1 hb, Mrh2 hb, Mwh2 hb, Mrh3 hb, Mwh3 hb, Mrh4 hb, Mwh4 hb, Mrw hb, Mww hb, Mrw0 hb, Mww0 hb, Mrw1 hb, Mww1 hb, Mre hb, Mwe hb, Mre0 hb, Mwe0 hb, Mre1 hb, Mwe1 hb, Mre2 hb, Mwe2 hb, Mre3 hb, Mwe3 hb, Mre4 hb, Mwe4 hb, Mre5 hb, Mwe5 hb, Mrp hb, Mwp hb, Mrp0 hb, Mwp0 hb, Mrp1 hb, Mwp1 hb, Mrp2 hb, Mwp2 hb, Mrp3 hb, Mwp3 hb, Mrp4 hb, Mwp4 hb, Mrp5 hb, Mwp5 hb, Mrk0 hb, Mwk0 hb, Mrk1 hb, Mwk1 hb, Mrx hb, Mwx hb, Mrx0 hb, Mwx0 hb, Mrx1 hb, Mwx1 hb, Mrx2 hb, Mwx2 hb, Mrx3 hb, Mwx3 hb, Mrx4 hb, Mwx4 hb, Mrx5 hb, Mwx5 hb, Mrt0 hb, Mwt0 hb, Mrt1 hb, Mwt1 hb, zjpE, zletE, zciE, zcvE, zchkE, nI_1, e1, nI_le (Nat.le_refl nh) (show nh < 2 ^ 31 by omega), if_true]
end P36
