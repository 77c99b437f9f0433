/-! PURE: the first two phases of a tick as loops: sirens, hearers. -/
def ab (x : Int32) : Int32 := if 0 ≤ x then x else -x
def vv (x v : Int32) : Int32 := if x + v < -40 ∨ 40 < x + v then -v else v
def xx (x v : Int32) : Int32 := if x + v < -40 then -40 else if 40 < x + v then 40 else x + v
theorem upd2_comm {F : Nat → Nat → Int32} {o o' j j' : Nat} {v v' : Int32} (h : o ≠ o') : upd2 (upd2 F o j v) o' j' v' = upd2 (upd2 F o' j' v') o j v := by
  funext q i
  unfold upd2
  by_cases h1 : q = o
  · subst h1; simp [h]
  · simp [h1]
section P35
variable {A : Prop} {w : zW} {a b ns nh nw t te tp np d e l c : Nat} {D : zD} {F G : Nat → Nat → Int32}
theorem e_abs {x : Int32} : f_Math_abs w D x = some (ab x, D) := by
  unfold f_Math_abs ab; simp only [zjpE, zletE, zciE, zcvE, zchkE, nI_1]; split <;> rfl
theorem e_without {x : Int32} : f_MD_without w D x = some (ab x, D) := by
  unfold f_MD_without ab; simp only [zjpE, zletE, zciE, zcvE, zchkE, nI_1]; split <;> rfl
theorem e_max {x y : Int32} : f_Math_max w D x y = some (if x < y then y else x, D) := by
  unfold f_Math_max; simp only [zjpE, zletE, zciE, zcvE, zchkE, nI_1]; split <;> rfl
theorem e_min {x y : Int32} : f_Math_min w D x y = some (if y < x then y else x, D) := by
  unfold f_Math_min; simp only [zjpE, zletE, zciE, zcvE, zchkE, nI_1]; split <;> rfl
theorem e_out {x : Int32} : f_Hearers_isOutside w D x = some (if x < -40 ∨ 40 < x then 1 else 0, D) := by
  unfold f_Hearers_isOutside; simp only [zjpE, zletE, zciE, zcvE, zchkE, nI_1]
  by_cases h1 : x < -40
  · simp [h1]
  · by_cases h2 : x ≤ 40
    · have h3 : ¬ 40 < x := by grind
      simp [h1, h2, h3]
    · have h3 : 40 < x := by grind
      simp [h1, h2, h3]
theorem xx_mm {x v : Int32} : (if (-40 : Int32) < (if x + v < 40 then x + v else 40) then (if x + v < 40 then x + v else 40) else -40) = xx x v := by unfold xx; grind
theorem xx_rg {x v : Int32} : -40 ≤ xx x v ∧ xx x v ≤ 40 := by unfold xx; grind
theorem vv_rg {x v : Int32} (h : -2 ≤ v ∧ v ≤ 2) : -2 ≤ vv x v ∧ vv x v ≤ 2 := by
  have h5 : v = -2 ∨ v = -1 ∨ v = 0 ∨ v = 1 ∨ v = 2 := by grind
  unfold vv
  rcases h5 with rfl | rfl | rfl | rfl | rfl <;> split <;> decide
theorem RI_h4 (h : RI F G ns nh nw t te tp A np d e l c) {k : Nat} {x y vx vy : Int32} (h2 : -40 ≤ x ∧ x ≤ 40 ∧ -40 ≤ y ∧ y ≤ 40 ∧ -2 ≤ vx ∧ vx ≤ 2 ∧ -2 ≤ vy ∧ vy ≤ 2) : RI (upd2 (upd2 (upd2 (upd2 F 12 k vx) 13 k vy) 10 k x) 11 k y) (upd2 (upd2 (upd2 (upd2 G 12 k vx) 13 k vy) 10 k x) 11 k y) ns nh nw t te tp A np d e l c := by
  obtain ⟨h1, ⟨p, hq⟩, hz, hB, i0, hS, hH, hW, hC, hP, hE, hK, hA⟩ := h
  refine ⟨R1_u (R1_u (R1_u (R1_u h1 rfl) rfl) rfl) rfl, ⟨p, ?_⟩, ?_, ?_, ?_, ?_, ?_, ?_, ?_, ?_, ?_, ?_, ?_⟩
  · unfold RQ at hq ⊢; simp (disch := omega) only [upd2_o]; exact hq
  · unfold RZ at hz ⊢; simp (disch := omega) only [upd2_o]; exact hz
  · simp (disch := omega) only [bsum_o, upd2_o]; exact hB
  · unfold I0 at i0 ⊢; simp (disch := omega) only [upd2_o]; exact i0
  · unfold IS at hS ⊢; simp (disch := omega) only [upd2_o]; exact hS
  · intro q hq
    have := hH q hq
    by_cases hk' : q = k
    · subst hk'; simp (disch := omega) only [upd2_o, upd2_s]; exact h2
    · simp (disch := omega) only [upd2_o, upd2_i]; exact this
  · unfold IW at hW ⊢; simp (disch := omega) only [upd2_o]; exact hW
  · unfold IC at hC ⊢; simp (disch := omega) only [upd2_o]; exact hC
  · unfold IP at hP ⊢; simp (disch := omega) only [upd2_o]; exact hP
  · unfold IE at hE ⊢; simp (disch := omega) only [upd2_o]; exact hE
  · unfold IK at hK ⊢; simp (disch := omega) only [upd2_o]; exact hK
  · unfold IA at hA ⊢; simp (disch := omega) only [upd2_o]; exact hA
theorem e_walks0 (hb : w.1 b = some (.inl (0, 521))) {k : Nat} (hk : k < 4) (hr : -40 ≤ G 10 k ∧ G 10 k ≤ 40 ∧ -2 ≤ G 12 k ∧ G 12 k ≤ 2) : f_MD_walks w (zset D b (vec G)) b (nI k) 0 = some (zset D b (vec (upd2 (upd2 G 12 k (vv (G 10 k) (G 12 k))) 10 k (xx (G 10 k) (G 12 k))))) := by
  unfold f_MD_walks
  simp (disch := omega) only [zjpE, zletE, zciE, zcvE, zchkE, nI_1, Mrc0 hb, Mwc0 hb, Mrc1 hb, Mwc1 hb, Mrc2 hb, Mwc2 hb, Mrc3 hb, Mwc3 hb, Mrc4 hb, Mwc4 hb, Mrc5 hb, Mwc5 hb, Mrc6 hb, Mwc6 hb, Mrc7 hb, Mwc7 hb, Mrc8 hb, Mwc8 hb, Mrc9 hb, Mwc9 hb, Mrc10 hb, Mwc10 hb, Mrs hb, Mws hb, Mrs0 hb, Mws0 hb, Mrs1 hb, Mws1 hb, Mrs2 hb, Mws2 hb, Mrs3 hb, Mws3 hb, Mrs4 hb, Mws4 hb, Mrs5 hb, Mws5 hb, Mrs6 hb, Mws6 hb, Mrh hb, Mwh hb, Mrh0 hb, Mwh0 hb, Mrh1 hb, Mwh1 hb, Mrh2 hb, Mwh2 hb, Mrh3 hb, Mwh3 hb, Mrh4 hb, Mwh4 hb, Mrw hb, Mww hb, Mrw0 hb, Mww0 hb, Mrw1 hb, Mww1 hb, Mre hb, Mwe hb, Mre0 hb, Mwe0 hb, Mre1 hb, Mwe1 hb, Mre2 hb, Mwe2 hb, Mre3 hb, Mwe3 hb, Mre4 hb, Mwe4 hb, Mre5 hb, Mwe5 hb, Mrp hb, Mwp hb, Mrp0 hb, Mwp0 hb, Mrp1 hb, Mwp1 hb, Mrp2 hb, Mwp2 hb, Mrp3 hb, Mwp3 hb, Mrp4 hb, Mwp4 hb, Mrp5 hb, Mwp5 hb, Mrk0 hb, Mwk0 hb, Mrk1 hb, Mwk1 hb, Mrx hb, Mwx hb, Mrx0 hb, Mwx0 hb, Mrx1 hb, Mwx1 hb, Mrx2 hb, Mwx2 hb, Mrx3 hb, Mwx3 hb, Mrx4 hb, Mwx4 hb, Mrx5 hb, Mwx5 hb, Mrt0 hb, Mwt0 hb, Mrt1 hb, Mwt1 hb, e_without]
  by_cases h1 : ab (G 10 k + G 12 k) ≤ 40
  · have h2 : vv (G 10 k) (G 12 k) = G 12 k := by unfold vv; unfold ab at h1; grind
    have h3 : xx (G 10 k) (G 12 k) = G 10 k + G 12 k := by unfold xx; unfold ab at h1; grind
    rw [if_pos h1, h2, h3, upd2_self]
  · have h2 : vv (G 10 k) (G 12 k) = - G 12 k := by unfold vv; unfold ab at h1; grind
    rw [if_neg h1, h2]
    by_cases h4 : 0 ≤ G 10 k + G 12 k
    · have h3 : xx (G 10 k) (G 12 k) = 40 := by unfold xx; unfold ab at h1; grind
      rw [if_pos h4, h3]
    · have h3 : xx (G 10 k) (G 12 k) = -40 := by unfold xx; unfold ab at h1; grind
      rw [if_neg h4, h3]
theorem e_walks1 (hb : w.1 b = some (.inl (0, 521))) {k : Nat} (hk : k < 4) (hr : -40 ≤ G 11 k ∧ G 11 k ≤ 40 ∧ -2 ≤ G 13 k ∧ G 13 k ≤ 2) : f_MD_walks w (zset D b (vec G)) b (nI k) 1 = some (zset D b (vec (upd2 (upd2 G 13 k (vv (G 11 k) (G 13 k))) 11 k (xx (G 11 k) (G 13 k))))) := by
  unfold f_MD_walks
  simp (disch := omega) only [zjpE, zletE, zciE, zcvE, zchkE, nI_1, Mrc0 hb, Mwc0 hb, Mrc1 hb, Mwc1 hb, Mrc2 hb, Mwc2 hb, Mrc3 hb, Mwc3 hb, Mrc4 hb, Mwc4 hb, Mrc5 hb, Mwc5 hb, Mrc6 hb, Mwc6 hb, Mrc7 hb, Mwc7 hb, Mrc8 hb, Mwc8 hb, Mrc9 hb, Mwc9 hb, Mrc10 hb, Mwc10 hb, Mrs hb, Mws hb, Mrs0 hb, Mws0 hb, Mrs1 hb, Mws1 hb, Mrs2 hb, Mws2 hb, Mrs3 hb, Mws3 hb, Mrs4 hb, Mws4 hb, Mrs5 hb, Mws5 hb, Mrs6 hb, Mws6 hb, Mrh hb, Mwh hb, Mrh0 hb, Mwh0 hb, Mrh1 hb, Mwh1 hb, Mrh2 hb, Mwh2 hb, Mrh3 hb, Mwh3 hb, Mrh4 hb, Mwh4 hb, Mrw hb, Mww hb, Mrw0 hb, Mww0 hb, Mrw1 hb, Mww1 hb, Mre hb, Mwe hb, Mre0 hb, Mwe0 hb, Mre1 hb, Mwe1 hb, Mre2 hb, Mwe2 hb, Mre3 hb, Mwe3 hb, Mre4 hb, Mwe4 hb, Mre5 hb, Mwe5 hb, Mrp hb, Mwp hb, Mrp0 hb, Mwp0 hb, Mrp1 hb, Mwp1 hb, Mrp2 hb, Mwp2 hb, Mrp3 hb, Mwp3 hb, Mrp4 hb, Mwp4 hb, Mrp5 hb, Mwp5 hb, Mrk0 hb, Mwk0 hb, Mrk1 hb, Mwk1 hb, Mrx hb, Mwx hb, Mrx0 hb, Mwx0 hb, Mrx1 hb, Mwx1 hb, Mrx2 hb, Mwx2 hb, Mrx3 hb, Mwx3 hb, Mrx4 hb, Mwx4 hb, Mrx5 hb, Mwx5 hb, Mrt0 hb, Mwt0 hb, Mrt1 hb, Mwt1 hb, e_without]
  by_cases h1 : ab (G 11 k + G 13 k) ≤ 40
  · have h2 : vv (G 11 k) (G 13 k) = G 13 k := by unfold vv; unfold ab at h1; grind
    have h3 : xx (G 11 k) (G 13 k) = G 11 k + G 13 k := by unfold xx; unfold ab at h1; grind
    rw [if_pos h1, h2, h3, upd2_self]
  · have h2 : vv (G 11 k) (G 13 k) = - G 13 k := by unfold vv; unfold ab at h1; grind
    rw [if_neg h1, h2]
    by_cases h4 : 0 ≤ G 11 k + G 13 k
    · have h3 : xx (G 11 k) (G 13 k) = 40 := by unfold xx; unfold ab at h1; grind
      rw [if_pos h4, h3]
    · have h3 : xx (G 11 k) (G 13 k) = -40 := by unfold xx; unfold ab at h1; grind
      rw [if_neg h4, h3]
theorem e_walk1 (hL : LF w a) {k : Nat} (hk : k < 4) (hF : F 9 6 = nI nh) (hn : nh ≤ 4) (hkn : k < nh) {j : Int32 → zD → Option zD} : S_Hearers_walkOn_S1 w (a + 9) j (nI k) (zblk D a F) = j (nI (k + 1)) (zblk D a (upd2 (upd2 (upd2 (upd2 F 12 k (vv (F 10 k) (F 12 k))) 13 k (vv (F 11 k) (F 13 k))) 10 k (xx (F 10 k) (F 12 k))) 11 k (xx (F 11 k) (F 13 k)))) := by
  have hc : ¬ nI nh ≤ nI k := by rw [nI_leI (by omega) (by omega)]; omega
  unfold S_Hearers_walkOn_S1
  simp (disch := omega) only [zjpE, zletE, zciE, zcvE, zchkE, nI_1, Lo0 hL, Lr0_0 hL, Lr0_1 hL, Lr0_2 hL, Lr0_3 hL, Lr0_4 hL, Lg0_5 hL, Lp0_5 hL, Lg0_6 hL, Lp0_6 hL, Lg0_7 hL, Lp0_7 hL, Lg0_8 hL, Lp0_8 hL, Lo1 hL, Lr1_0 hL, Lr1_1 hL, Lr1_2 hL, Lr1_3 hL, Lr1_4 hL, Lr1_5 hL, Lr1_6 hL, Lg1_7 hL, Lp1_7 hL, Lo9 hL, Lr9_0 hL, Lr9_1 hL, Lr9_2 hL, Lr9_3 hL, Lr9_4 hL, Lr9_5 hL, Lg9_6 hL, Lp9_6 hL, Lg9_7 hL, Lp9_7 hL, Lo16 hL, Lr16_0 hL, Lr16_1 hL, Lg16_2 hL, Lp16_2 hL, Lo19 hL, Lr19_0 hL, Lr19_1 hL, Lr19_2 hL, Lr19_3 hL, Lr19_4 hL, Lr19_5 hL, Lg19_6 hL, Lp19_6 hL, Lg19_7 hL, Lp19_7 hL, Lo26 hL, Lr26_0 hL, Lr26_1 hL, Lr26_2 hL, Lr26_3 hL, Lr26_4 hL, Lr26_5 hL, Lg26_6 hL, Lp26_6 hL, Lg26_7 hL, Lp26_7 hL, Lg26_8 hL, Lp26_8 hL, La2 hL, Ls2 hL, La3 hL, Ls3 hL, La4 hL, Ls4 hL, La5 hL, Ls5 hL, La6 hL, Ls6 hL, La7 hL, Ls7 hL, La8 hL, Ls8 hL, La10 hL, Ls10 hL, La11 hL, Ls11 hL, La12 hL, Ls12 hL, La13 hL, Ls13 hL, La14 hL, Ls14 hL, La15 hL, Ls15 hL, La17 hL, Ls17 hL, La18 hL, Ls18 hL, La20 hL, Ls20 hL, La21 hL, Ls21 hL, La22 hL, Ls22 hL, La23 hL, Ls23 hL, La24 hL, Ls24 hL, La25 hL, Ls25 hL, La27 hL, Ls27 hL, La28 hL, Ls28 hL, La29 hL, Ls29 hL, La30 hL, Ls30 hL, La31 hL, Ls31 hL, La32 hL, Ls32 hL, hF, hc, if_false, e_out, e_min, e_max, xx_mm]
  by_cases hx : F 10 k + F 12 k < -40 ∨ 40 < F 10 k + F 12 k
  · have e1 : vv (F 10 k) (F 12 k) = - F 12 k := by unfold vv; rw [if_pos hx]
    by_cases hy : F 11 k + F 13 k < -40 ∨ 40 < F 11 k + F 13 k
    · have e2 : vv (F 11 k) (F 13 k) = - F 13 k := by unfold vv; rw [if_pos hy]
      simp (disch := omega) only [if_pos hx, if_pos hy, upd2_o, show ¬ (1 : Int32) = 0 by decide, if_false, e1, e2, Lo0 hL, Lr0_0 hL, Lr0_1 hL, Lr0_2 hL, Lr0_3 hL, Lr0_4 hL, Lg0_5 hL, Lp0_5 hL, Lg0_6 hL, Lp0_6 hL, Lg0_7 hL, Lp0_7 hL, Lg0_8 hL, Lp0_8 hL, Lo1 hL, Lr1_0 hL, Lr1_1 hL, Lr1_2 hL, Lr1_3 hL, Lr1_4 hL, Lr1_5 hL, Lr1_6 hL, Lg1_7 hL, Lp1_7 hL, Lo9 hL, Lr9_0 hL, Lr9_1 hL, Lr9_2 hL, Lr9_3 hL, Lr9_4 hL, Lr9_5 hL, Lg9_6 hL, Lp9_6 hL, Lg9_7 hL, Lp9_7 hL, Lo16 hL, Lr16_0 hL, Lr16_1 hL, Lg16_2 hL, Lp16_2 hL, Lo19 hL, Lr19_0 hL, Lr19_1 hL, Lr19_2 hL, Lr19_3 hL, Lr19_4 hL, Lr19_5 hL, Lg19_6 hL, Lp19_6 hL, Lg19_7 hL, Lp19_7 hL, Lo26 hL, Lr26_0 hL, Lr26_1 hL, Lr26_2 hL, Lr26_3 hL, Lr26_4 hL, Lr26_5 hL, Lg26_6 hL, Lp26_6 hL, Lg26_7 hL, Lp26_7 hL, Lg26_8 hL, Lp26_8 hL, La2 hL, Ls2 hL, La3 hL, Ls3 hL, La4 hL, Ls4 hL, La5 hL, Ls5 hL, La6 hL, Ls6 hL, La7 hL, Ls7 hL, La8 hL, Ls8 hL, La10 hL, Ls10 hL, La11 hL, Ls11 hL, La12 hL, Ls12 hL, La13 hL, Ls13 hL, La14 hL, Ls14 hL, La15 hL, Ls15 hL, La17 hL, Ls17 hL, La18 hL, Ls18 hL, La20 hL, Ls20 hL, La21 hL, Ls21 hL, La22 hL, Ls22 hL, La23 hL, Ls23 hL, La24 hL, Ls24 hL, La25 hL, Ls25 hL, La27 hL, Ls27 hL, La28 hL, Ls28 hL, La29 hL, Ls29 hL, La30 hL, Ls30 hL, La31 hL, Ls31 hL, La32 hL, Ls32 hL, zjpE, zletE, zciE, zcvE, zchkE, nI_1]
    · have e2 : vv (F 11 k) (F 13 k) = F 13 k := by unfold vv; rw [if_neg hy]
      have e3 : F 13 k = upd2 F 12 k (-F 12 k) 13 k := by rw [upd2_o (by decide)]
      simp (disch := omega) only [if_pos hx, if_neg hy, upd2_o, show ¬ (1 : Int32) = 0 by decide, if_false, if_true, e1, e2, Lo0 hL, Lr0_0 hL, Lr0_1 hL, Lr0_2 hL, Lr0_3 hL, Lr0_4 hL, Lg0_5 hL, Lp0_5 hL, Lg0_6 hL, Lp0_6 hL, Lg0_7 hL, Lp0_7 hL, Lg0_8 hL, Lp0_8 hL, Lo1 hL, Lr1_0 hL, Lr1_1 hL, Lr1_2 hL, Lr1_3 hL, Lr1_4 hL, Lr1_5 hL, Lr1_6 hL, Lg1_7 hL, Lp1_7 hL, Lo9 hL, Lr9_0 hL, Lr9_1 hL, Lr9_2 hL, Lr9_3 hL, Lr9_4 hL, Lr9_5 hL, Lg9_6 hL, Lp9_6 hL, Lg9_7 hL, Lp9_7 hL, Lo16 hL, Lr16_0 hL, Lr16_1 hL, Lg16_2 hL, Lp16_2 hL, Lo19 hL, Lr19_0 hL, Lr19_1 hL, Lr19_2 hL, Lr19_3 hL, Lr19_4 hL, Lr19_5 hL, Lg19_6 hL, Lp19_6 hL, Lg19_7 hL, Lp19_7 hL, Lo26 hL, Lr26_0 hL, Lr26_1 hL, Lr26_2 hL, Lr26_3 hL, Lr26_4 hL, Lr26_5 hL, Lg26_6 hL, Lp26_6 hL, Lg26_7 hL, Lp26_7 hL, Lg26_8 hL, Lp26_8 hL, La2 hL, Ls2 hL, La3 hL, Ls3 hL, La4 hL, Ls4 hL, La5 hL, Ls5 hL, La6 hL, Ls6 hL, La7 hL, Ls7 hL, La8 hL, Ls8 hL, La10 hL, Ls10 hL, La11 hL, Ls11 hL, La12 hL, Ls12 hL, La13 hL, Ls13 hL, La14 hL, Ls14 hL, La15 hL, Ls15 hL, La17 hL, Ls17 hL, La18 hL, Ls18 hL, La20 hL, Ls20 hL, La21 hL, Ls21 hL, La22 hL, Ls22 hL, La23 hL, Ls23 hL, La24 hL, Ls24 hL, La25 hL, Ls25 hL, La27 hL, Ls27 hL, La28 hL, Ls28 hL, La29 hL, Ls29 hL, La30 hL, Ls30 hL, La31 hL, Ls31 hL, La32 hL, Ls32 hL, zjpE, zletE, zciE, zcvE, zchkE, nI_1]
      rw [e3, upd2_self]
  · have e1 : vv (F 10 k) (F 12 k) = F 12 k := by unfold vv; rw [if_neg hx]
    by_cases hy : F 11 k + F 13 k < -40 ∨ 40 < F 11 k + F 13 k
    · have e2 : vv (F 11 k) (F 13 k) = - F 13 k := by unfold vv; rw [if_pos hy]
      simp (disch := omega) only [if_neg hx, if_pos hy, upd2_o, upd2_self, show ¬ (1 : Int32) = 0 by decide, if_false, if_true, e1, e2, Lo0 hL, Lr0_0 hL, Lr0_1 hL, Lr0_2 hL, Lr0_3 hL, Lr0_4 hL, Lg0_5 hL, Lp0_5 hL, Lg0_6 hL, Lp0_6 hL, Lg0_7 hL, Lp0_7 hL, Lg0_8 hL, Lp0_8 hL, Lo1 hL, Lr1_0 hL, Lr1_1 hL, Lr1_2 hL, Lr1_3 hL, Lr1_4 hL, Lr1_5 hL, Lr1_6 hL, Lg1_7 hL, Lp1_7 hL, Lo9 hL, Lr9_0 hL, Lr9_1 hL, Lr9_2 hL, Lr9_3 hL, Lr9_4 hL, Lr9_5 hL, Lg9_6 hL, Lp9_6 hL, Lg9_7 hL, Lp9_7 hL, Lo16 hL, Lr16_0 hL, Lr16_1 hL, Lg16_2 hL, Lp16_2 hL, Lo19 hL, Lr19_0 hL, Lr19_1 hL, Lr19_2 hL, Lr19_3 hL, Lr19_4 hL, Lr19_5 hL, Lg19_6 hL, Lp19_6 hL, Lg19_7 hL, Lp19_7 hL, Lo26 hL, Lr26_0 hL, Lr26_1 hL, Lr26_2 hL, Lr26_3 hL, Lr26_4 hL, Lr26_5 hL, Lg26_6 hL, Lp26_6 hL, Lg26_7 hL, Lp26_7 hL, Lg26_8 hL, Lp26_8 hL, La2 hL, Ls2 hL, La3 hL, Ls3 hL, La4 hL, Ls4 hL, La5 hL, Ls5 hL, La6 hL, Ls6 hL, La7 hL, Ls7 hL, La8 hL, Ls8 hL, La10 hL, Ls10 hL, La11 hL, Ls11 hL, La12 hL, Ls12 hL, La13 hL, Ls13 hL, La14 hL, Ls14 hL, La15 hL, Ls15 hL, La17 hL, Ls17 hL, La18 hL, Ls18 hL, La20 hL, Ls20 hL, La21 hL, Ls21 hL, La22 hL, Ls22 hL, La23 hL, Ls23 hL, La24 hL, Ls24 hL, La25 hL, Ls25 hL, La27 hL, Ls27 hL, La28 hL, Ls28 hL, La29 hL, Ls29 hL, La30 hL, Ls30 hL, La31 hL, Ls31 hL, La32 hL, Ls32 hL, zjpE, zletE, zciE, zcvE, zchkE, nI_1]
    · have e2 : vv (F 11 k) (F 13 k) = F 13 k := by unfold vv; rw [if_neg hy]
      simp (disch := omega) only [if_neg hx, if_neg hy, upd2_o, upd2_self, if_true, e1, e2, Lo0 hL, Lr0_0 hL, Lr0_1 hL, Lr0_2 hL, Lr0_3 hL, Lr0_4 hL, Lg0_5 hL, Lp0_5 hL, Lg0_6 hL, Lp0_6 hL, Lg0_7 hL, Lp0_7 hL, Lg0_8 hL, Lp0_8 hL, Lo1 hL, Lr1_0 hL, Lr1_1 hL, Lr1_2 hL, Lr1_3 hL, Lr1_4 hL, Lr1_5 hL, Lr1_6 hL, Lg1_7 hL, Lp1_7 hL, Lo9 hL, Lr9_0 hL, Lr9_1 hL, Lr9_2 hL, Lr9_3 hL, Lr9_4 hL, Lr9_5 hL, Lg9_6 hL, Lp9_6 hL, Lg9_7 hL, Lp9_7 hL, Lo16 hL, Lr16_0 hL, Lr16_1 hL, Lg16_2 hL, Lp16_2 hL, Lo19 hL, Lr19_0 hL, Lr19_1 hL, Lr19_2 hL, Lr19_3 hL, Lr19_4 hL, Lr19_5 hL, Lg19_6 hL, Lp19_6 hL, Lg19_7 hL, Lp19_7 hL, Lo26 hL, Lr26_0 hL, Lr26_1 hL, Lr26_2 hL, Lr26_3 hL, Lr26_4 hL, Lr26_5 hL, Lg26_6 hL, Lp26_6 hL, Lg26_7 hL, Lp26_7 hL, Lg26_8 hL, Lp26_8 hL, La2 hL, Ls2 hL, La3 hL, Ls3 hL, La4 hL, Ls4 hL, La5 hL, Ls5 hL, La6 hL, Ls6 hL, La7 hL, Ls7 hL, La8 hL, Ls8 hL, La10 hL, Ls10 hL, La11 hL, Ls11 hL, La12 hL, Ls12 hL, La13 hL, Ls13 hL, La14 hL, Ls14 hL, La15 hL, Ls15 hL, La17 hL, Ls17 hL, La18 hL, Ls18 hL, La20 hL, Ls20 hL, La21 hL, Ls21 hL, La22 hL, Ls22 hL, La23 hL, Ls23 hL, La24 hL, Ls24 hL, La25 hL, Ls25 hL, La27 hL, Ls27 hL, La28 hL, Ls28 hL, La29 hL, Ls29 hL, La30 hL, Ls30 hL, La31 hL, Ls31 hL, La32 hL, Ls32 hL, zjpE, zletE, zciE, zcvE, zchkE, nI_1]
end P35
