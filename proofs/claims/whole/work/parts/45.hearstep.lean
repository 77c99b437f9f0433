/-! PURE: one hearer hears one pulse, on both sides. -/
section P45
variable {A : Prop} {w : zW} {a b ns nh nw t te tp np d e l c p k : Nat} {D : zD} {F G : Nat → Nat → Int32}
theorem NF_o {pr o : Nat} {gv tm : Int32} (h : o ≤ 25) : NF F pr gv tm o = F o := by unfold NF; simp (disch := omega) only [upd2_o]
theorem e_pairOf {q s : Nat} : f_Ears_pairOf w D (nI q) (nI s) = some (nI (4 * q + s), D) := by
  unfold f_Ears_pairOf
  rw [show (4 : Int32) = nI 4 from rfl, pk_mul, nI_add, Nat.mul_comm q 4]
theorem c_had (hL : LF w a) {r q : Nat} (hr : r < 60) (hq : q < nh) (hn : nh ≤ 4) (hF : F 9 6 = nI nh) {x2 px py wl age : Int32} {j : Int32 → Int32 → Int32 → Int32 → Int32 → Int32 → zD → Option zD} (h1 : had (F 25 r) q) : S_Field_hearPulse_S1 w a (nI r) j x2 px py wl age (nI q) (zblk D a F) = j x2 px py wl age (nI (q + 1)) (zblk D a F) := by
  have hc : ¬ nI nh ≤ nI q := by rw [nI_leI (by omega) (by omega)]; omega
  unfold S_Field_hearPulse_S1
  simp (disch := omega) only [↓zjpE, ↓zletE, ↓zciE, ↓zcvE, ↓zchkE, ↓reduceIte, zciE, zcvE, nI_1, ↓Lo0 hL, Lo0 hL, ↓Lr0_0 hL, Lr0_0 hL, ↓Lr0_1 hL, Lr0_1 hL, ↓Lr0_2 hL, Lr0_2 hL, ↓Lr0_3 hL, Lr0_3 hL, ↓Lr0_4 hL, Lr0_4 hL, ↓Lg0_5 hL, Lg0_5 hL, ↓Lp0_5 hL, Lp0_5 hL, ↓Lg0_6 hL, Lg0_6 hL, ↓Lp0_6 hL, Lp0_6 hL, ↓Lg0_7 hL, Lg0_7 hL, ↓Lp0_7 hL, Lp0_7 hL, ↓Lg0_8 hL, Lg0_8 hL, ↓Lp0_8 hL, Lp0_8 hL, ↓Lo1 hL, Lo1 hL, ↓Lr1_0 hL, Lr1_0 hL, ↓Lr1_1 hL, Lr1_1 hL, ↓Lr1_2 hL, Lr1_2 hL, ↓Lr1_3 hL, Lr1_3 hL, ↓Lr1_4 hL, Lr1_4 hL, ↓Lr1_5 hL, Lr1_5 hL, ↓Lr1_6 hL, Lr1_6 hL, ↓Lg1_7 hL, Lg1_7 hL, ↓Lp1_7 hL, Lp1_7 hL, ↓Lo9 hL, Lo9 hL, ↓Lr9_0 hL, Lr9_0 hL, ↓Lr9_1 hL, Lr9_1 hL, ↓Lr9_2 hL, Lr9_2 hL, ↓Lr9_3 hL, Lr9_3 hL, ↓Lr9_4 hL, Lr9_4 hL, ↓Lr9_5 hL, Lr9_5 hL, ↓Lg9_6 hL, Lg9_6 hL, ↓Lp9_6 hL, Lp9_6 hL, ↓Lg9_7 hL, Lg9_7 hL, ↓Lp9_7 hL, Lp9_7 hL, ↓Lo16 hL, Lo16 hL, ↓Lr16_0 hL, Lr16_0 hL, ↓Lr16_1 hL, Lr16_1 hL, ↓Lg16_2 hL, Lg16_2 hL, ↓Lp16_2 hL, Lp16_2 hL, ↓Lo19 hL, Lo19 hL, ↓Lr19_0 hL, Lr19_0 hL, ↓Lr19_1 hL, Lr19_1 hL, ↓Lr19_2 hL, Lr19_2 hL, ↓Lr19_3 hL, Lr19_3 hL, ↓Lr19_4 hL, Lr19_4 hL, ↓Lr19_5 hL, Lr19_5 hL, ↓Lg19_6 hL, Lg19_6 hL, ↓Lp19_6 hL, Lp19_6 hL, ↓Lg19_7 hL, Lg19_7 hL, ↓Lp19_7 hL, Lp19_7 hL, ↓Lo26 hL, Lo26 hL, ↓Lr26_0 hL, Lr26_0 hL, ↓Lr26_1 hL, Lr26_1 hL, ↓Lr26_2 hL, Lr26_2 hL, ↓Lr26_3 hL, Lr26_3 hL, ↓Lr26_4 hL, Lr26_4 hL, ↓Lr26_5 hL, Lr26_5 hL, ↓Lg26_6 hL, Lg26_6 hL, ↓Lp26_6 hL, Lp26_6 hL, ↓Lg26_7 hL, Lg26_7 hL, ↓Lp26_7 hL, Lp26_7 hL, ↓Lg26_8 hL, Lg26_8 hL, ↓Lp26_8 hL, Lp26_8 hL, ↓La2 hL, La2 hL, ↓Ls2 hL, Ls2 hL, ↓La3 hL, La3 hL, ↓Ls3 hL, Ls3 hL, ↓La4 hL, La4 hL, ↓Ls4 hL, Ls4 hL, ↓La5 hL, La5 hL, ↓Ls5 hL, Ls5 hL, ↓La6 hL, La6 hL, ↓Ls6 hL, Ls6 hL, ↓La7 hL, La7 hL, ↓Ls7 hL, Ls7 hL, ↓La8 hL, La8 hL, ↓Ls8 hL, Ls8 hL, ↓La10 hL, La10 hL, ↓Ls10 hL, Ls10 hL, ↓La11 hL, La11 hL, ↓Ls11 hL, Ls11 hL, ↓La12 hL, La12 hL, ↓Ls12 hL, Ls12 hL, ↓La13 hL, La13 hL, ↓Ls13 hL, Ls13 hL, ↓La14 hL, La14 hL, ↓Ls14 hL, Ls14 hL, ↓La15 hL, La15 hL, ↓Ls15 hL, Ls15 hL, ↓La17 hL, La17 hL, ↓Ls17 hL, Ls17 hL, ↓La18 hL, La18 hL, ↓Ls18 hL, Ls18 hL, ↓La20 hL, La20 hL, ↓Ls20 hL, Ls20 hL, ↓La21 hL, La21 hL, ↓Ls21 hL, Ls21 hL, ↓La22 hL, La22 hL, ↓Ls22 hL, Ls22 hL, ↓La23 hL, La23 hL, ↓Ls23 hL, Ls23 hL, ↓La24 hL, La24 hL, ↓Ls24 hL, Ls24 hL, ↓La25 hL, La25 hL, ↓Ls25 hL, Ls25 hL, ↓La27 hL, La27 hL, ↓Ls27 hL, Ls27 hL, ↓La28 hL, La28 hL, ↓Ls28 hL, Ls28 hL, ↓La29 hL, La29 hL, ↓Ls29 hL, Ls29 hL, ↓La30 hL, La30 hL, ↓Ls30 hL, Ls30 hL, ↓La31 hL, La31 hL, ↓Ls31 hL, Ls31 hL, ↓La32 hL, La32 hL, ↓Ls32 hL, Ls32 hL, hF, hc, h1]
theorem c_far (hL : LF w a) {r q : Nat} (hr : r < 60) (hq : q < nh) (hn : nh ≤ 4) (hF : F 9 6 = nI nh) {x2 px py wl age : Int32} {j : Int32 → Int32 → Int32 → Int32 → Int32 → Int32 → zD → Option zD} (h1 : ¬ had (F 25 r) q) (h2 : ¬ ab (F 10 q - px) + ab (F 11 q - py) ≤ F 0 7 * age) : S_Field_hearPulse_S1 w a (nI r) j x2 px py wl age (nI q) (zblk D a F) = j x2 px py wl age (nI (q + 1)) (zblk D a F) := by
  have hc : ¬ nI nh ≤ nI q := by rw [nI_leI (by omega) (by omega)]; omega
  have hw := @e_wayTo w a D F hL q (by omega) px py
  unfold S_Field_hearPulse_S1
  simp (disch := omega) only [↓zjpE, ↓zletE, ↓zciE, ↓zcvE, ↓zchkE, ↓reduceIte, zciE, zcvE, nI_1, ↓Lo0 hL, Lo0 hL, ↓Lr0_0 hL, Lr0_0 hL, ↓Lr0_1 hL, Lr0_1 hL, ↓Lr0_2 hL, Lr0_2 hL, ↓Lr0_3 hL, Lr0_3 hL, ↓Lr0_4 hL, Lr0_4 hL, ↓Lg0_5 hL, Lg0_5 hL, ↓Lp0_5 hL, Lp0_5 hL, ↓Lg0_6 hL, Lg0_6 hL, ↓Lp0_6 hL, Lp0_6 hL, ↓Lg0_7 hL, Lg0_7 hL, ↓Lp0_7 hL, Lp0_7 hL, ↓Lg0_8 hL, Lg0_8 hL, ↓Lp0_8 hL, Lp0_8 hL, ↓Lo1 hL, Lo1 hL, ↓Lr1_0 hL, Lr1_0 hL, ↓Lr1_1 hL, Lr1_1 hL, ↓Lr1_2 hL, Lr1_2 hL, ↓Lr1_3 hL, Lr1_3 hL, ↓Lr1_4 hL, Lr1_4 hL, ↓Lr1_5 hL, Lr1_5 hL, ↓Lr1_6 hL, Lr1_6 hL, ↓Lg1_7 hL, Lg1_7 hL, ↓Lp1_7 hL, Lp1_7 hL, ↓Lo9 hL, Lo9 hL, ↓Lr9_0 hL, Lr9_0 hL, ↓Lr9_1 hL, Lr9_1 hL, ↓Lr9_2 hL, Lr9_2 hL, ↓Lr9_3 hL, Lr9_3 hL, ↓Lr9_4 hL, Lr9_4 hL, ↓Lr9_5 hL, Lr9_5 hL, ↓Lg9_6 hL, Lg9_6 hL, ↓Lp9_6 hL, Lp9_6 hL, ↓Lg9_7 hL, Lg9_7 hL, ↓Lp9_7 hL, Lp9_7 hL, ↓Lo16 hL, Lo16 hL, ↓Lr16_0 hL, Lr16_0 hL, ↓Lr16_1 hL, Lr16_1 hL, ↓Lg16_2 hL, Lg16_2 hL, ↓Lp16_2 hL, Lp16_2 hL, ↓Lo19 hL, Lo19 hL, ↓Lr19_0 hL, Lr19_0 hL, ↓Lr19_1 hL, Lr19_1 hL, ↓Lr19_2 hL, Lr19_2 hL, ↓Lr19_3 hL, Lr19_3 hL, ↓Lr19_4 hL, Lr19_4 hL, ↓Lr19_5 hL, Lr19_5 hL, ↓Lg19_6 hL, Lg19_6 hL, ↓Lp19_6 hL, Lp19_6 hL, ↓Lg19_7 hL, Lg19_7 hL, ↓Lp19_7 hL, Lp19_7 hL, ↓Lo26 hL, Lo26 hL, ↓Lr26_0 hL, Lr26_0 hL, ↓Lr26_1 hL, Lr26_1 hL, ↓Lr26_2 hL, Lr26_2 hL, ↓Lr26_3 hL, Lr26_3 hL, ↓Lr26_4 hL, Lr26_4 hL, ↓Lr26_5 hL, Lr26_5 hL, ↓Lg26_6 hL, Lg26_6 hL, ↓Lp26_6 hL, Lp26_6 hL, ↓Lg26_7 hL, Lg26_7 hL, ↓Lp26_7 hL, Lp26_7 hL, ↓Lg26_8 hL, Lg26_8 hL, ↓Lp26_8 hL, Lp26_8 hL, ↓La2 hL, La2 hL, ↓Ls2 hL, Ls2 hL, ↓La3 hL, La3 hL, ↓Ls3 hL, Ls3 hL, ↓La4 hL, La4 hL, ↓Ls4 hL, Ls4 hL, ↓La5 hL, La5 hL, ↓Ls5 hL, Ls5 hL, ↓La6 hL, La6 hL, ↓Ls6 hL, Ls6 hL, ↓La7 hL, La7 hL, ↓Ls7 hL, Ls7 hL, ↓La8 hL, La8 hL, ↓Ls8 hL, Ls8 hL, ↓La10 hL, La10 hL, ↓Ls10 hL, Ls10 hL, ↓La11 hL, La11 hL, ↓Ls11 hL, Ls11 hL, ↓La12 hL, La12 hL, ↓Ls12 hL, Ls12 hL, ↓La13 hL, La13 hL, ↓Ls13 hL, Ls13 hL, ↓La14 hL, La14 hL, ↓Ls14 hL, Ls14 hL, ↓La15 hL, La15 hL, ↓Ls15 hL, Ls15 hL, ↓La17 hL, La17 hL, ↓Ls17 hL, Ls17 hL, ↓La18 hL, La18 hL, ↓Ls18 hL, Ls18 hL, ↓La20 hL, La20 hL, ↓Ls20 hL, Ls20 hL, ↓La21 hL, La21 hL, ↓Ls21 hL, Ls21 hL, ↓La22 hL, La22 hL, ↓Ls22 hL, Ls22 hL, ↓La23 hL, La23 hL, ↓Ls23 hL, Ls23 hL, ↓La24 hL, La24 hL, ↓Ls24 hL, Ls24 hL, ↓La25 hL, La25 hL, ↓Ls25 hL, Ls25 hL, ↓La27 hL, La27 hL, ↓Ls27 hL, Ls27 hL, ↓La28 hL, La28 hL, ↓Ls28 hL, Ls28 hL, ↓La29 hL, La29 hL, ↓Ls29 hL, Ls29 hL, ↓La30 hL, La30 hL, ↓Ls30 hL, Ls30 hL, ↓La31 hL, La31 hL, ↓Ls31 hL, Ls31 hL, ↓La32 hL, La32 hL, ↓Ls32 hL, Ls32 hL, hF, hc, h1, ↓zciX hw, h2]
theorem c_dir (hL : LF w a) {r q s : Nat} (hr : r < 60) (hq : q < nh) (hn : nh ≤ 4) (hs : s < 4) (hF : F 9 6 = nI nh) {px py age : Int32} {j : Int32 → Int32 → Int32 → Int32 → Int32 → Int32 → zD → Option zD} (h1 : ¬ had (F 25 r) q) (h2 : ab (F 10 q - px) + ab (F 11 q - py) ≤ F 0 7 * age) (h31 : F 30 (4 * q + s) = -1 → F 31 (4 * q + s) = -1) : S_Field_hearPulse_S1 w a (nI r) j (nI s) px py (-1) age (nI q) (zblk D a F) = j (nI s) px py (-1) age (nI (q + 1)) (zblk D a (upd2 (NF (upd2 F 25 r (F 25 r ||| (1 <<< (nI q &&& 31)))) (4 * q + s) (F 23 r) (F 0 5)) 15 q (F 15 q ||| (1 <<< (nI s &&& 31))))) := by
  have hc : ¬ nI nh ≤ nI q := by rw [nI_leI (by omega) (by omega)]; omega
  have hw := @e_wayTo w a D F hL q (by omega) px py
  have hp := @e_pairOf w (zblk D a (upd2 F 25 r (F 25 r ||| (1 <<< (nI q &&& 31))))) q s
  have hd := @e_hearDirect w a D (upd2 F 25 r (F 25 r ||| (1 <<< (nI q &&& 31)))) hL (4 * q + s) (by omega) (F 23 r) (F 0 5) (by simp (disch := omega) only [upd2_o]; exact h31)
  unfold S_Field_hearPulse_S1
  simp (disch := omega) only [↓zjpE, ↓zletE, ↓zciE, ↓zcvE, ↓zchkE, ↓reduceIte, zciE, zcvE, nI_1, ↓Lo0 hL, Lo0 hL, ↓Lr0_0 hL, Lr0_0 hL, ↓Lr0_1 hL, Lr0_1 hL, ↓Lr0_2 hL, Lr0_2 hL, ↓Lr0_3 hL, Lr0_3 hL, ↓Lr0_4 hL, Lr0_4 hL, ↓Lg0_5 hL, Lg0_5 hL, ↓Lp0_5 hL, Lp0_5 hL, ↓Lg0_6 hL, Lg0_6 hL, ↓Lp0_6 hL, Lp0_6 hL, ↓Lg0_7 hL, Lg0_7 hL, ↓Lp0_7 hL, Lp0_7 hL, ↓Lg0_8 hL, Lg0_8 hL, ↓Lp0_8 hL, Lp0_8 hL, ↓Lo1 hL, Lo1 hL, ↓Lr1_0 hL, Lr1_0 hL, ↓Lr1_1 hL, Lr1_1 hL, ↓Lr1_2 hL, Lr1_2 hL, ↓Lr1_3 hL, Lr1_3 hL, ↓Lr1_4 hL, Lr1_4 hL, ↓Lr1_5 hL, Lr1_5 hL, ↓Lr1_6 hL, Lr1_6 hL, ↓Lg1_7 hL, Lg1_7 hL, ↓Lp1_7 hL, Lp1_7 hL, ↓Lo9 hL, Lo9 hL, ↓Lr9_0 hL, Lr9_0 hL, ↓Lr9_1 hL, Lr9_1 hL, ↓Lr9_2 hL, Lr9_2 hL, ↓Lr9_3 hL, Lr9_3 hL, ↓Lr9_4 hL, Lr9_4 hL, ↓Lr9_5 hL, Lr9_5 hL, ↓Lg9_6 hL, Lg9_6 hL, ↓Lp9_6 hL, Lp9_6 hL, ↓Lg9_7 hL, Lg9_7 hL, ↓Lp9_7 hL, Lp9_7 hL, ↓Lo16 hL, Lo16 hL, ↓Lr16_0 hL, Lr16_0 hL, ↓Lr16_1 hL, Lr16_1 hL, ↓Lg16_2 hL, Lg16_2 hL, ↓Lp16_2 hL, Lp16_2 hL, ↓Lo19 hL, Lo19 hL, ↓Lr19_0 hL, Lr19_0 hL, ↓Lr19_1 hL, Lr19_1 hL, ↓Lr19_2 hL, Lr19_2 hL, ↓Lr19_3 hL, Lr19_3 hL, ↓Lr19_4 hL, Lr19_4 hL, ↓Lr19_5 hL, Lr19_5 hL, ↓Lg19_6 hL, Lg19_6 hL, ↓Lp19_6 hL, Lp19_6 hL, ↓Lg19_7 hL, Lg19_7 hL, ↓Lp19_7 hL, Lp19_7 hL, ↓Lo26 hL, Lo26 hL, ↓Lr26_0 hL, Lr26_0 hL, ↓Lr26_1 hL, Lr26_1 hL, ↓Lr26_2 hL, Lr26_2 hL, ↓Lr26_3 hL, Lr26_3 hL, ↓Lr26_4 hL, Lr26_4 hL, ↓Lr26_5 hL, Lr26_5 hL, ↓Lg26_6 hL, Lg26_6 hL, ↓Lp26_6 hL, Lp26_6 hL, ↓Lg26_7 hL, Lg26_7 hL, ↓Lp26_7 hL, Lp26_7 hL, ↓Lg26_8 hL, Lg26_8 hL, ↓Lp26_8 hL, Lp26_8 hL, ↓La2 hL, La2 hL, ↓Ls2 hL, Ls2 hL, ↓La3 hL, La3 hL, ↓Ls3 hL, Ls3 hL, ↓La4 hL, La4 hL, ↓Ls4 hL, Ls4 hL, ↓La5 hL, La5 hL, ↓Ls5 hL, Ls5 hL, ↓La6 hL, La6 hL, ↓Ls6 hL, Ls6 hL, ↓La7 hL, La7 hL, ↓Ls7 hL, Ls7 hL, ↓La8 hL, La8 hL, ↓Ls8 hL, Ls8 hL, ↓La10 hL, La10 hL, ↓Ls10 hL, Ls10 hL, ↓La11 hL, La11 hL, ↓Ls11 hL, Ls11 hL, ↓La12 hL, La12 hL, ↓Ls12 hL, Ls12 hL, ↓La13 hL, La13 hL, ↓Ls13 hL, Ls13 hL, ↓La14 hL, La14 hL, ↓Ls14 hL, Ls14 hL, ↓La15 hL, La15 hL, ↓Ls15 hL, Ls15 hL, ↓La17 hL, La17 hL, ↓Ls17 hL, Ls17 hL, ↓La18 hL, La18 hL, ↓Ls18 hL, Ls18 hL, ↓La20 hL, La20 hL, ↓Ls20 hL, Ls20 hL, ↓La21 hL, La21 hL, ↓Ls21 hL, Ls21 hL, ↓La22 hL, La22 hL, ↓Ls22 hL, Ls22 hL, ↓La23 hL, La23 hL, ↓Ls23 hL, Ls23 hL, ↓La24 hL, La24 hL, ↓Ls24 hL, Ls24 hL, ↓La25 hL, La25 hL, ↓Ls25 hL, Ls25 hL, ↓La27 hL, La27 hL, ↓Ls27 hL, Ls27 hL, ↓La28 hL, La28 hL, ↓Ls28 hL, Ls28 hL, ↓La29 hL, La29 hL, ↓Ls29 hL, Ls29 hL, ↓La30 hL, La30 hL, ↓Ls30 hL, Ls30 hL, ↓La31 hL, La31 hL, ↓Ls31 hL, Ls31 hL, ↓La32 hL, La32 hL, ↓Ls32 hL, Ls32 hL, hF, hc, h1, ↓zciX hw, h2, ↓zciX hp, upd2_o, zcvX hd, NF_o]
theorem c_noside (hL : LF w a) {r q i : Nat} (hr : r < 60) (hq : q < nh) (hn : nh ≤ 4) (hi : i < nw) (hnw : nw ≤ 3) (hFw : F 16 2 = nI nw) (hF : F 9 6 = nI nh) {x2 px py age : Int32} {j : Int32 → Int32 → Int32 → Int32 → Int32 → Int32 → zD → Option zD} (h1 : ¬ had (F 25 r) q) (h2 : ab (F 10 q - px) + ab (F 11 q - py) ≤ F 0 7 * age) (h3 : ¬ side (F 17 i) (F 18 i) px py (F 10 q) (F 11 q)) : S_Field_hearPulse_S1 w a (nI r) j x2 px py (nI i) age (nI q) (zblk D a F) = j x2 px py (nI i) age (nI (q + 1)) (zblk D a F) := by
  have hc : ¬ nI nh ≤ nI q := by rw [nI_leI (by omega) (by omega)]; omega
  have hw := @e_wayTo w a D F hL q (by omega) px py
  have hm : ¬ nI i = -1 := nI_ne_m1 (by omega)
  have hb := @e_isBetween w a nw D F hL i hi hnw hFw px py (F 10 q) (F 11 q)
  rw [if_neg h3] at hb
  unfold S_Field_hearPulse_S1
  simp (disch := omega) only [↓zjpE, ↓zletE, ↓zciE, ↓zcvE, ↓zchkE, ↓reduceIte, zciE, zcvE, nI_1, ↓Lo0 hL, Lo0 hL, ↓Lr0_0 hL, Lr0_0 hL, ↓Lr0_1 hL, Lr0_1 hL, ↓Lr0_2 hL, Lr0_2 hL, ↓Lr0_3 hL, Lr0_3 hL, ↓Lr0_4 hL, Lr0_4 hL, ↓Lg0_5 hL, Lg0_5 hL, ↓Lp0_5 hL, Lp0_5 hL, ↓Lg0_6 hL, Lg0_6 hL, ↓Lp0_6 hL, Lp0_6 hL, ↓Lg0_7 hL, Lg0_7 hL, ↓Lp0_7 hL, Lp0_7 hL, ↓Lg0_8 hL, Lg0_8 hL, ↓Lp0_8 hL, Lp0_8 hL, ↓Lo1 hL, Lo1 hL, ↓Lr1_0 hL, Lr1_0 hL, ↓Lr1_1 hL, Lr1_1 hL, ↓Lr1_2 hL, Lr1_2 hL, ↓Lr1_3 hL, Lr1_3 hL, ↓Lr1_4 hL, Lr1_4 hL, ↓Lr1_5 hL, Lr1_5 hL, ↓Lr1_6 hL, Lr1_6 hL, ↓Lg1_7 hL, Lg1_7 hL, ↓Lp1_7 hL, Lp1_7 hL, ↓Lo9 hL, Lo9 hL, ↓Lr9_0 hL, Lr9_0 hL, ↓Lr9_1 hL, Lr9_1 hL, ↓Lr9_2 hL, Lr9_2 hL, ↓Lr9_3 hL, Lr9_3 hL, ↓Lr9_4 hL, Lr9_4 hL, ↓Lr9_5 hL, Lr9_5 hL, ↓Lg9_6 hL, Lg9_6 hL, ↓Lp9_6 hL, Lp9_6 hL, ↓Lg9_7 hL, Lg9_7 hL, ↓Lp9_7 hL, Lp9_7 hL, ↓Lo16 hL, Lo16 hL, ↓Lr16_0 hL, Lr16_0 hL, ↓Lr16_1 hL, Lr16_1 hL, ↓Lg16_2 hL, Lg16_2 hL, ↓Lp16_2 hL, Lp16_2 hL, ↓Lo19 hL, Lo19 hL, ↓Lr19_0 hL, Lr19_0 hL, ↓Lr19_1 hL, Lr19_1 hL, ↓Lr19_2 hL, Lr19_2 hL, ↓Lr19_3 hL, Lr19_3 hL, ↓Lr19_4 hL, Lr19_4 hL, ↓Lr19_5 hL, Lr19_5 hL, ↓Lg19_6 hL, Lg19_6 hL, ↓Lp19_6 hL, Lp19_6 hL, ↓Lg19_7 hL, Lg19_7 hL, ↓Lp19_7 hL, Lp19_7 hL, ↓Lo26 hL, Lo26 hL, ↓Lr26_0 hL, Lr26_0 hL, ↓Lr26_1 hL, Lr26_1 hL, ↓Lr26_2 hL, Lr26_2 hL, ↓Lr26_3 hL, Lr26_3 hL, ↓Lr26_4 hL, Lr26_4 hL, ↓Lr26_5 hL, Lr26_5 hL, ↓Lg26_6 hL, Lg26_6 hL, ↓Lp26_6 hL, Lp26_6 hL, ↓Lg26_7 hL, Lg26_7 hL, ↓Lp26_7 hL, Lp26_7 hL, ↓Lg26_8 hL, Lg26_8 hL, ↓Lp26_8 hL, Lp26_8 hL, ↓La2 hL, La2 hL, ↓Ls2 hL, Ls2 hL, ↓La3 hL, La3 hL, ↓Ls3 hL, Ls3 hL, ↓La4 hL, La4 hL, ↓Ls4 hL, Ls4 hL, ↓La5 hL, La5 hL, ↓Ls5 hL, Ls5 hL, ↓La6 hL, La6 hL, ↓Ls6 hL, Ls6 hL, ↓La7 hL, La7 hL, ↓Ls7 hL, Ls7 hL, ↓La8 hL, La8 hL, ↓Ls8 hL, Ls8 hL, ↓La10 hL, La10 hL, ↓Ls10 hL, Ls10 hL, ↓La11 hL, La11 hL, ↓Ls11 hL, Ls11 hL, ↓La12 hL, La12 hL, ↓Ls12 hL, Ls12 hL, ↓La13 hL, La13 hL, ↓Ls13 hL, Ls13 hL, ↓La14 hL, La14 hL, ↓Ls14 hL, Ls14 hL, ↓La15 hL, La15 hL, ↓Ls15 hL, Ls15 hL, ↓La17 hL, La17 hL, ↓Ls17 hL, Ls17 hL, ↓La18 hL, La18 hL, ↓Ls18 hL, Ls18 hL, ↓La20 hL, La20 hL, ↓Ls20 hL, Ls20 hL, ↓La21 hL, La21 hL, ↓Ls21 hL, Ls21 hL, ↓La22 hL, La22 hL, ↓Ls22 hL, Ls22 hL, ↓La23 hL, La23 hL, ↓Ls23 hL, Ls23 hL, ↓La24 hL, La24 hL, ↓Ls24 hL, Ls24 hL, ↓La25 hL, La25 hL, ↓Ls25 hL, Ls25 hL, ↓La27 hL, La27 hL, ↓Ls27 hL, Ls27 hL, ↓La28 hL, La28 hL, ↓Ls28 hL, Ls28 hL, ↓La29 hL, La29 hL, ↓Ls29 hL, Ls29 hL, ↓La30 hL, La30 hL, ↓Ls30 hL, Ls30 hL, ↓La31 hL, La31 hL, ↓Ls31 hL, Ls31 hL, ↓La32 hL, La32 hL, ↓Ls32 hL, Ls32 hL, hF, hc, h1, ↓zciX hw, h2, hm, ↓zciX hb]
theorem c_echo (hL : LF w a) {r q s i : Nat} (hr : r < 60) (hq : q < nh) (hn : nh ≤ 4) (hs : s < 4) (hi : i < nw) (hnw : nw ≤ 3) (hFw : F 16 2 = nI nw) (hF : F 9 6 = nI nh) {px py age : Int32} {j : Int32 → Int32 → Int32 → Int32 → Int32 → Int32 → zD → Option zD} (h1 : ¬ had (F 25 r) q) (h2 : ab (F 10 q - px) + ab (F 11 q - py) ≤ F 0 7 * age) (h3 : side (F 17 i) (F 18 i) px py (F 10 q) (F 11 q)) : S_Field_hearPulse_S1 w a (nI r) j (nI s) px py (nI i) age (nI q) (zblk D a F) = j (nI s) px py (nI i) age (nI (q + 1)) (zblk D a (EF (upd2 F 25 r (F 25 r ||| (1 <<< (nI q &&& 31)))) (4 * q + s))) := by
  have hc : ¬ nI nh ≤ nI q := by rw [nI_leI (by omega) (by omega)]; omega
  have hw := @e_wayTo w a D F hL q (by omega) px py
  have hm : ¬ nI i = -1 := nI_ne_m1 (by omega)
  have d1 : ¬ (1 : Int32) = 0 := by decide
  have hb := @e_isBetween w a nw D F hL i hi hnw hFw px py (F 10 q) (F 11 q)
  rw [if_pos h3] at hb
  have hp := @e_pairOf w (zblk D a (upd2 F 25 r (F 25 r ||| (1 <<< (nI q &&& 31))))) q s
  have hd := @e_hearEcho w a D (upd2 F 25 r (F 25 r ||| (1 <<< (nI q &&& 31)))) hL (4 * q + s) (by omega)
  unfold S_Field_hearPulse_S1
  simp (disch := omega) only [↓zjpE, ↓zletE, ↓zciE, ↓zcvE, ↓zchkE, ↓reduceIte, zciE, zcvE, nI_1, ↓Lo0 hL, Lo0 hL, ↓Lr0_0 hL, Lr0_0 hL, ↓Lr0_1 hL, Lr0_1 hL, ↓Lr0_2 hL, Lr0_2 hL, ↓Lr0_3 hL, Lr0_3 hL, ↓Lr0_4 hL, Lr0_4 hL, ↓Lg0_5 hL, Lg0_5 hL, ↓Lp0_5 hL, Lp0_5 hL, ↓Lg0_6 hL, Lg0_6 hL, ↓Lp0_6 hL, Lp0_6 hL, ↓Lg0_7 hL, Lg0_7 hL, ↓Lp0_7 hL, Lp0_7 hL, ↓Lg0_8 hL, Lg0_8 hL, ↓Lp0_8 hL, Lp0_8 hL, ↓Lo1 hL, Lo1 hL, ↓Lr1_0 hL, Lr1_0 hL, ↓Lr1_1 hL, Lr1_1 hL, ↓Lr1_2 hL, Lr1_2 hL, ↓Lr1_3 hL, Lr1_3 hL, ↓Lr1_4 hL, Lr1_4 hL, ↓Lr1_5 hL, Lr1_5 hL, ↓Lr1_6 hL, Lr1_6 hL, ↓Lg1_7 hL, Lg1_7 hL, ↓Lp1_7 hL, Lp1_7 hL, ↓Lo9 hL, Lo9 hL, ↓Lr9_0 hL, Lr9_0 hL, ↓Lr9_1 hL, Lr9_1 hL, ↓Lr9_2 hL, Lr9_2 hL, ↓Lr9_3 hL, Lr9_3 hL, ↓Lr9_4 hL, Lr9_4 hL, ↓Lr9_5 hL, Lr9_5 hL, ↓Lg9_6 hL, Lg9_6 hL, ↓Lp9_6 hL, Lp9_6 hL, ↓Lg9_7 hL, Lg9_7 hL, ↓Lp9_7 hL, Lp9_7 hL, ↓Lo16 hL, Lo16 hL, ↓Lr16_0 hL, Lr16_0 hL, ↓Lr16_1 hL, Lr16_1 hL, ↓Lg16_2 hL, Lg16_2 hL, ↓Lp16_2 hL, Lp16_2 hL, ↓Lo19 hL, Lo19 hL, ↓Lr19_0 hL, Lr19_0 hL, ↓Lr19_1 hL, Lr19_1 hL, ↓Lr19_2 hL, Lr19_2 hL, ↓Lr19_3 hL, Lr19_3 hL, ↓Lr19_4 hL, Lr19_4 hL, ↓Lr19_5 hL, Lr19_5 hL, ↓Lg19_6 hL, Lg19_6 hL, ↓Lp19_6 hL, Lp19_6 hL, ↓Lg19_7 hL, Lg19_7 hL, ↓Lp19_7 hL, Lp19_7 hL, ↓Lo26 hL, Lo26 hL, ↓Lr26_0 hL, Lr26_0 hL, ↓Lr26_1 hL, Lr26_1 hL, ↓Lr26_2 hL, Lr26_2 hL, ↓Lr26_3 hL, Lr26_3 hL, ↓Lr26_4 hL, Lr26_4 hL, ↓Lr26_5 hL, Lr26_5 hL, ↓Lg26_6 hL, Lg26_6 hL, ↓Lp26_6 hL, Lp26_6 hL, ↓Lg26_7 hL, Lg26_7 hL, ↓Lp26_7 hL, Lp26_7 hL, ↓Lg26_8 hL, Lg26_8 hL, ↓Lp26_8 hL, Lp26_8 hL, ↓La2 hL, La2 hL, ↓Ls2 hL, Ls2 hL, ↓La3 hL, La3 hL, ↓Ls3 hL, Ls3 hL, ↓La4 hL, La4 hL, ↓Ls4 hL, Ls4 hL, ↓La5 hL, La5 hL, ↓Ls5 hL, Ls5 hL, ↓La6 hL, La6 hL, ↓Ls6 hL, Ls6 hL, ↓La7 hL, La7 hL, ↓Ls7 hL, Ls7 hL, ↓La8 hL, La8 hL, ↓Ls8 hL, Ls8 hL, ↓La10 hL, La10 hL, ↓Ls10 hL, Ls10 hL, ↓La11 hL, La11 hL, ↓Ls11 hL, Ls11 hL, ↓La12 hL, La12 hL, ↓Ls12 hL, Ls12 hL, ↓La13 hL, La13 hL, ↓Ls13 hL, Ls13 hL, ↓La14 hL, La14 hL, ↓Ls14 hL, Ls14 hL, ↓La15 hL, La15 hL, ↓Ls15 hL, Ls15 hL, ↓La17 hL, La17 hL, ↓Ls17 hL, Ls17 hL, ↓La18 hL, La18 hL, ↓Ls18 hL, Ls18 hL, ↓La20 hL, La20 hL, ↓Ls20 hL, Ls20 hL, ↓La21 hL, La21 hL, ↓Ls21 hL, Ls21 hL, ↓La22 hL, La22 hL, ↓Ls22 hL, Ls22 hL, ↓La23 hL, La23 hL, ↓Ls23 hL, Ls23 hL, ↓La24 hL, La24 hL, ↓Ls24 hL, Ls24 hL, ↓La25 hL, La25 hL, ↓Ls25 hL, Ls25 hL, ↓La27 hL, La27 hL, ↓Ls27 hL, Ls27 hL, ↓La28 hL, La28 hL, ↓Ls28 hL, Ls28 hL, ↓La29 hL, La29 hL, ↓Ls29 hL, Ls29 hL, ↓La30 hL, La30 hL, ↓Ls30 hL, Ls30 hL, ↓La31 hL, La31 hL, ↓Ls31 hL, Ls31 hL, ↓La32 hL, La32 hL, ↓Ls32 hL, Ls32 hL, hF, hc, h1, ↓zciX hw, h2, hm, ↓zciX hb, d1, ↓zciX hp, zcvX hd]
theorem m_step0 (hb : w.1 b = some (.inl (0, 521))) {q : Nat} {J : Int32 → zD → Option zD} {j : Int32 → Int32 → zD → Option zD} (hq : q < nh) (hn : nh ≤ 4) (hG : G 9 6 = nI nh) (h1 : f_MD_isHeardNow w (zset D b (vec G)) b (nI k) (nI q) = some (0, zset D b (vec G))) : S_MD_tick_S7 w b J j (nI k) (nI q) (zset D b (vec G)) = j (nI k) (nI (q + 1)) (zset D b (vec G)) := by
  have hc : ¬ nI nh ≤ nI q := by rw [nI_leI (by omega) (by omega)]; omega
  unfold S_MD_tick_S7
  simp (disch := omega) only [↓zjpE, ↓zletE, ↓zciE, ↓zcvE, ↓zchkE, ↓reduceIte, zciE, zcvE, nI_1, ↓Mrc0 hb, ↓Mwc0 hb, ↓Mrc1 hb, ↓Mwc1 hb, ↓Mrc2 hb, ↓Mwc2 hb, ↓Mrc3 hb, ↓Mwc3 hb, ↓Mrc4 hb, ↓Mwc4 hb, ↓Mrc5 hb, ↓Mwc5 hb, ↓Mrc6 hb, ↓Mwc6 hb, ↓Mrc7 hb, ↓Mwc7 hb, ↓Mrc8 hb, ↓Mwc8 hb, ↓Mrc9 hb, ↓Mwc9 hb, ↓Mrc10 hb, ↓Mwc10 hb, ↓Mrs hb, ↓Mws hb, ↓Mrs0 hb, ↓Mws0 hb, ↓Mrs1 hb, ↓Mws1 hb, ↓Mrs2 hb, ↓Mws2 hb, ↓Mrs3 hb, ↓Mws3 hb, ↓Mrs4 hb, ↓Mws4 hb, ↓Mrs5 hb, ↓Mws5 hb, ↓Mrs6 hb, ↓Mws6 hb, ↓Mrh hb, ↓Mwh hb, ↓Mrh0 hb, ↓Mwh0 hb, ↓Mrh1 hb, ↓Mwh1 hb, ↓Mrh2 hb, ↓Mwh2 hb, ↓Mrh3 hb, ↓Mwh3 hb, ↓Mrh4 hb, ↓Mwh4 hb, ↓Mrw hb, ↓Mww hb, ↓Mrw0 hb, ↓Mww0 hb, ↓Mrw1 hb, ↓Mww1 hb, ↓Mre hb, ↓Mwe hb, ↓Mre0 hb, ↓Mwe0 hb, ↓Mre1 hb, ↓Mwe1 hb, ↓Mre2 hb, ↓Mwe2 hb, ↓Mre3 hb, ↓Mwe3 hb, ↓Mre4 hb, ↓Mwe4 hb, ↓Mre5 hb, ↓Mwe5 hb, ↓Mrp hb, ↓Mwp hb, ↓Mrp0 hb, ↓Mwp0 hb, ↓Mrp1 hb, ↓Mwp1 hb, ↓Mrp2 hb, ↓Mwp2 hb, ↓Mrp3 hb, ↓Mwp3 hb, ↓Mrp4 hb, ↓Mwp4 hb, ↓Mrp5 hb, ↓Mwp5 hb, ↓Mrk0 hb, ↓Mwk0 hb, ↓Mrk1 hb, ↓Mwk1 hb, ↓Mrx hb, ↓Mwx hb, ↓Mrx0 hb, ↓Mwx0 hb, ↓Mrx1 hb, ↓Mwx1 hb, ↓Mrx2 hb, ↓Mwx2 hb, ↓Mrx3 hb, ↓Mwx3 hb, ↓Mrx4 hb, ↓Mwx4 hb, ↓Mrx5 hb, ↓Mwx5 hb, ↓Mrt0 hb, ↓Mwt0 hb, ↓Mrt1 hb, ↓Mwt1 hb, ↓Mqs0 hb, ↓Mqs1 hb, ↓Mqs2 hb, ↓Mqs3 hb, ↓Mqs4 hb, ↓Mqs5 hb, ↓Mqs6 hb, ↓Mqh0 hb, ↓Mqh1 hb, ↓Mqh2 hb, ↓Mqh3 hb, ↓Mqh4 hb, ↓Mqp0 hb, ↓Mqp1 hb, ↓Mqp2 hb, ↓Mqp3 hb, ↓Mqp4 hb, ↓Mqp5 hb, hG, hc, ↓zciX h1]
theorem m_step1 (hb : w.1 b = some (.inl (0, 521))) {q : Nat} {J : Int32 → zD → Option zD} {j : Int32 → Int32 → zD → Option zD} {M : zD} (hq : q < nh) (hn : nh ≤ 4) (hG : G 9 6 = nI nh) (h1 : f_MD_isHeardNow w (zset D b (vec G)) b (nI k) (nI q) = some (1, zset D b (vec G))) (h2 : f_MD_hear w (zset D b (vec G)) b (nI k) (nI q) = some M) : S_MD_tick_S7 w b J j (nI k) (nI q) (zset D b (vec G)) = j (nI k) (nI (q + 1)) M := by
  have hc : ¬ nI nh ≤ nI q := by rw [nI_leI (by omega) (by omega)]; omega
  have d1 : ¬ (1 : Int32) = 0 := by decide
  unfold S_MD_tick_S7
  simp (disch := omega) only [↓zjpE, ↓zletE, ↓zciE, ↓zcvE, ↓zchkE, ↓reduceIte, zciE, zcvE, nI_1, ↓Mrc0 hb, ↓Mwc0 hb, ↓Mrc1 hb, ↓Mwc1 hb, ↓Mrc2 hb, ↓Mwc2 hb, ↓Mrc3 hb, ↓Mwc3 hb, ↓Mrc4 hb, ↓Mwc4 hb, ↓Mrc5 hb, ↓Mwc5 hb, ↓Mrc6 hb, ↓Mwc6 hb, ↓Mrc7 hb, ↓Mwc7 hb, ↓Mrc8 hb, ↓Mwc8 hb, ↓Mrc9 hb, ↓Mwc9 hb, ↓Mrc10 hb, ↓Mwc10 hb, ↓Mrs hb, ↓Mws hb, ↓Mrs0 hb, ↓Mws0 hb, ↓Mrs1 hb, ↓Mws1 hb, ↓Mrs2 hb, ↓Mws2 hb, ↓Mrs3 hb, ↓Mws3 hb, ↓Mrs4 hb, ↓Mws4 hb, ↓Mrs5 hb, ↓Mws5 hb, ↓Mrs6 hb, ↓Mws6 hb, ↓Mrh hb, ↓Mwh hb, ↓Mrh0 hb, ↓Mwh0 hb, ↓Mrh1 hb, ↓Mwh1 hb, ↓Mrh2 hb, ↓Mwh2 hb, ↓Mrh3 hb, ↓Mwh3 hb, ↓Mrh4 hb, ↓Mwh4 hb, ↓Mrw hb, ↓Mww hb, ↓Mrw0 hb, ↓Mww0 hb, ↓Mrw1 hb, ↓Mww1 hb, ↓Mre hb, ↓Mwe hb, ↓Mre0 hb, ↓Mwe0 hb, ↓Mre1 hb, ↓Mwe1 hb, ↓Mre2 hb, ↓Mwe2 hb, ↓Mre3 hb, ↓Mwe3 hb, ↓Mre4 hb, ↓Mwe4 hb, ↓Mre5 hb, ↓Mwe5 hb, ↓Mrp hb, ↓Mwp hb, ↓Mrp0 hb, ↓Mwp0 hb, ↓Mrp1 hb, ↓Mwp1 hb, ↓Mrp2 hb, ↓Mwp2 hb, ↓Mrp3 hb, ↓Mwp3 hb, ↓Mrp4 hb, ↓Mwp4 hb, ↓Mrp5 hb, ↓Mwp5 hb, ↓Mrk0 hb, ↓Mwk0 hb, ↓Mrk1 hb, ↓Mwk1 hb, ↓Mrx hb, ↓Mwx hb, ↓Mrx0 hb, ↓Mwx0 hb, ↓Mrx1 hb, ↓Mwx1 hb, ↓Mrx2 hb, ↓Mwx2 hb, ↓Mrx3 hb, ↓Mwx3 hb, ↓Mrx4 hb, ↓Mwx4 hb, ↓Mrx5 hb, ↓Mwx5 hb, ↓Mrt0 hb, ↓Mwt0 hb, ↓Mrt1 hb, ↓Mwt1 hb, ↓Mqs0 hb, ↓Mqs1 hb, ↓Mqs2 hb, ↓Mqs3 hb, ↓Mqs4 hb, ↓Mqs5 hb, ↓Mqs6 hb, ↓Mqh0 hb, ↓Mqh1 hb, ↓Mqh2 hb, ↓Mqh3 hb, ↓Mqh4 hb, ↓Mqp0 hb, ↓Mqp1 hb, ↓Mqp2 hb, ↓Mqp3 hb, ↓Mqp4 hb, ↓Mqp5 hb, hG, hc, ↓zciX h1, d1, ↓zcvX h2]
theorem hear1 (hL : LF w a) (hb : w.1 b = some (.inl (0, 521))) (h : RH F G ns nh nw t tp A np d e l c p k) (hk : k < np) {q s : Nat} (hq : q < nh) (hs : s < ns) (hg : G 20 k = nI s) : ∃ F' G' d' e' l', RH F' G' ns nh nw t tp A np d' e' l' (c + 1) p k ∧ d ≤ d' ∧ e ≤ e' ∧ l ≤ l' ∧ (∀ o, o ≤ 24 → G' o = G o) ∧ (∀ i, i ≠ k → G' 25 i = G 25 i) ∧ (∀ D j, S_Field_hearPulse_S1 w a (nI ((p + k) % 60)) j (nI s) (G 21 k) (G 22 k) (G 24 k) (G 0 5 - G 23 k) (nI q) (zblk D a F) = j (nI s) (G 21 k) (G 22 k) (G 24 k) (G 0 5 - G 23 k) (nI (q + 1)) (zblk D a F')) ∧ (∀ D J j, S_MD_tick_S7 w b J j (nI k) (nI q) (zset D b (vec G)) = j (nI k) (nI (q + 1)) (zset D b (vec G'))) := by
  obtain ⟨h1, ⟨q1, q2, q3, q4, q5⟩, a1, a2, aS, aB, ⟨i0, iS, iH, iW, iC, iP, iA⟩, aE, aK⟩ := id h
  obtain ⟨n0, n1, n2, n3, n4, n5, n6, n7⟩ := i0
  have hk60 : k < 60 := by omega
  have hq4 : q < 4 := by omega
  have hs4 : s < 4 := by omega
  have hr : (p + k) % 60 < 60 := by omega
  have hF9 : F 9 6 = nI nh := by rw [r9_6 h1, n2]
  have hF16 : F 16 2 = nI nw := by rw [r16_2 h1, n4]
  have b25 : F 25 ((p + k) % 60) = G 25 k := a1 5 k (by decide) (Nat.le_refl k) hk
  have b23 : F 23 ((p + k) % 60) = G 23 k := a1 3 k (by decide) (Nat.le_refl k) hk
  obtain ⟨-, p1, p2, p3, p4, -, p5⟩ := iP k hk
  obtain ⟨o1, o2, o3, o4, -⟩ := iH q hq
  have o1' : -400 ≤ G 10 q ∧ G 10 q ≤ 400 ∧ -400 ≤ G 11 q ∧ G 11 q ≤ 400 := by clear h h1 a1 a2 aS iS iH iW iP aE; grind
  have way : ab (F 10 q - G 21 k) + ab (F 11 q - G 22 k) ≤ F 0 7 * (G 0 5 - G 23 k) ↔ reach (G 10 q) (G 11 q) (G 21 k) (G 22 k) (G 0 7) (G 0 5) (G 23 k) := by
    unfold reach
    rw [r10 h1 hq4, r11 h1 hq4, r0_7 h1, @ab_neg (G 10 q), @ab_neg (G 11 q)]
  have stay : (c : Nat) ≤ c + 1 := Nat.le_succ c
  have hstay : RH F G ns nh nw t tp A np d e l (c + 1) p k := ⟨h1, ⟨q1, q2, q3, q4, q5⟩, a1, a2, aS, aB, ⟨⟨n0, n1, n2, n3, n4, n5, n6, n7⟩, iS, iH, iW, iC, iP, iA⟩, aE, aK.1, aK.2.1, aK.2.2.1, by have := aK.2.2.2.1; omega, aK.2.2.2.2⟩
  have hwl : ∀ i, i < nw → G 24 k = nI i → (F 17 i = G 17 i ∧ F 18 i = G 18 i) := fun i hi _ => ⟨r17 h1 (by omega), r18 h1 (by omega)⟩
  by_cases c1 : had (G 25 k) q
  · refine ⟨F, G, d, e, l, hstay, Nat.le_refl _, Nat.le_refl _, Nat.le_refl _, fun _ _ => rfl, fun _ _ => rfl, fun D j => c_had hL hr hq n3 hF9 (by rw [b25]; exact c1), ?_⟩
    intro D J j
    rcases p5 with hw | ⟨i, hi, hw⟩
    · have := @e_heardA w b D G hb k q hk60 hq4 hw
      rw [if_neg (fun hx => hx.1 c1)] at this
      exact m_step0 hb hq n3 n2 this
    · have := @e_heardB w b D G hb k q i hk60 hq4 (by omega) hw (iW i hi).1 (iW i hi).2 ⟨p1, p2, p3, p4⟩ o1'
      rw [if_neg (fun hx => hx.1 c1)] at this
      exact m_step0 hb hq n3 n2 this
  · have c1' : ¬ had (F 25 ((p + k) % 60)) q := by rw [b25]; exact c1
    by_cases c2 : reach (G 10 q) (G 11 q) (G 21 k) (G 22 k) (G 0 7) (G 0 5) (G 23 k)
    · have c2' := way.2 c2
      rcases p5 with hw | ⟨i, hi, hw⟩
      · obtain ⟨l', hl', hD⟩ := RH_D h hk hq hs
        refine ⟨_, _, _, _, _, hD, Nat.le_succ d, Nat.le_refl _, hl', ?_, ?_, ?_, ?_⟩
        · intro o ho
          by_cases ho25 : o = 25
          · omega
          · rw [NF_o (by omega), upd2_o ho25]
        · intro i hi
          unfold NF; simp (disch := omega) only [upd2_o, upd2_i]
        · intro D j
          have h31 : F 30 (4 * q + s) = -1 → F 31 (4 * q + s) = -1 := by
            rw [r30 h1 (by omega), r31 h1 (by omega)]
            intro hx
            rcases aE (4 * q + s) (by omega) with hy | ⟨u, hu, hy⟩
            · exact hy.2
            · rw [hy] at hx; exact absurd hx (nI_ne_m1 (by omega))
          rw [hw, c_dir hL hr hq n3 hs4 hF9 c1' c2' h31, b23, r0_5 h1]
        · intro D J j
          have := @e_heardA w b D G hb k q hk60 hq4 hw
          rw [if_pos ⟨c1, c2⟩] at this
          exact m_step1 hb hq n3 n2 this (e_hearD hb hk60 hq4 hs4 hw hg)
      · by_cases c3 : side (G 17 i) (G 18 i) (G 21 k) (G 22 k) (G 10 q) (G 11 q)
        · have hE := RH_E h hk hq hs
          refine ⟨_, _, _, _, _, hE, Nat.le_refl _, Nat.le_succ e, Nat.le_refl _, ?_, ?_, ?_, ?_⟩
          · intro o ho
            unfold EF; simp (disch := omega) only [upd2_o]
          · intro i hi
            unfold EF; simp (disch := omega) only [upd2_o, upd2_i]
          · intro D j
            rw [hw, c_echo hL hr hq n3 hs4 hi n5 hF16 hF9 c1' c2' (by rw [r17 h1 (by omega), r18 h1 (by omega), r10 h1 hq4, r11 h1 hq4]; exact c3)]
          · intro D J j
            have := @e_heardB w b D G hb k q i hk60 hq4 (by omega) hw (iW i hi).1 (iW i hi).2 ⟨p1, p2, p3, p4⟩ o1'
            rw [if_pos ⟨c1, c2, c3⟩] at this
            exact m_step1 hb hq n3 n2 this (e_hearE hb hk60 hq4 hs4 (by rw [hw]; exact nI_ne_m1 (by omega)) hg)
        · refine ⟨F, G, d, e, l, hstay, Nat.le_refl _, Nat.le_refl _, Nat.le_refl _, fun _ _ => rfl, fun _ _ => rfl, ?_, ?_⟩
          · intro D j
            rw [hw, c_noside hL hr hq n3 hi n5 hF16 hF9 c1' c2' (by rw [r17 h1 (by omega), r18 h1 (by omega), r10 h1 hq4, r11 h1 hq4]; exact c3)]
          · intro D J j
            have := @e_heardB w b D G hb k q i hk60 hq4 (by omega) hw (iW i hi).1 (iW i hi).2 ⟨p1, p2, p3, p4⟩ o1'
            rw [if_neg (fun hx => c3 hx.2.2)] at this
            exact m_step0 hb hq n3 n2 this
    · refine ⟨F, G, d, e, l, hstay, Nat.le_refl _, Nat.le_refl _, Nat.le_refl _, fun _ _ => rfl, fun _ _ => rfl, fun D j => c_far hL hr hq n3 hF9 c1' (fun hx => c2 (way.1 hx)), ?_⟩
      intro D J j
      rcases p5 with hw | ⟨i, hi, hw⟩
      · have := @e_heardA w b D G hb k q hk60 hq4 hw
        rw [if_neg (fun hx => c2 hx.2)] at this
        exact m_step0 hb hq n3 n2 this
      · have := @e_heardB w b D G hb k q i hk60 hq4 (by omega) hw (iW i hi).1 (iW i hi).2 ⟨p1, p2, p3, p4⟩ o1'
        rw [if_neg (fun hx => c2 hx.2.1)] at this
        exact m_step0 hb hq n3 n2 this
end P45
