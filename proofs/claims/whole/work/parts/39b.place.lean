theorem pX_rg {x r p : Int32} (hx : -30 ≤ x ∧ x ≤ 30) (h1 : 1 ≤ r) (h2 : r ≤ 5) (h3 : 0 ≤ p) (h4 : p < 8 * r) : -200 ≤ pX x r p ∧ pX x r p ≤ 200 := by
  have h5 : r = 1 ∨ r = 2 ∨ r = 3 ∨ r = 4 ∨ r = 5 := by grind
  have h6 : 0 ≤ p ∧ p < 40 := by grind
  clear h1 h2 h3 h4
  unfold pX
  obtain ⟨h6, h7⟩ := h6
  obtain ⟨h8, h9⟩ := hx
  rcases h5 with rfl | rfl | rfl | rfl | rfl <;> constructor <;> grind
theorem pY_rg {x r p : Int32} (hx : -30 ≤ x ∧ x ≤ 30) (h1 : 1 ≤ r) (h2 : r ≤ 5) (h3 : 0 ≤ p) (h4 : p < 8 * r) : -200 ≤ pY x r p ∧ pY x r p ≤ 200 := by
  have h5 : r = 1 ∨ r = 2 ∨ r = 3 ∨ r = 4 ∨ r = 5 := by grind
  have h6 : 0 ≤ p ∧ p < 40 := by grind
  clear h1 h2 h3 h4
  unfold pY
  obtain ⟨h6, h7⟩ := h6
  obtain ⟨h8, h9⟩ := hx
  rcases h5 with rfl | rfl | rfl | rfl | rfl <;> constructor <;> grind
section P39
variable {A : Prop} {w : zW} {a b ns nh nw t te tp np d e l c p : Nat} {D : zD} {F G : Nat → Nat → Int32}
theorem ite_some {α : Type} {c : Prop} [Decidable c] {x y : α} : (if c then some x else some y) = some (if c then x else y) := by split <;> rfl
theorem ite_pr {α β : Type} {c : Prop} [Decidable c] {x y : α} {z : β} : (if c then (x, z) else (y, z)) = (if c then x else y, z) := by split <;> rfl
theorem e_placeX (hL : LF w a) {k : Nat} (hk : k < 4) (h1 : 1 ≤ F 4 k) (h2 : F 4 k ≤ 5) (h3 : 0 ≤ F 7 k) (h4 : F 7 k < 8 * F 4 k) : f_Sirens_placeX w (zblk D a F) (a + 1) (nI k) = some (pX (F 2 k) (F 4 k) (F 7 k), zblk D a F) := by
  unfold f_Sirens_placeX
  simp (disch := omega) only [zjpE, zletE, zciE, zcvE, zchkE, nI_1, Lo0 hL, Lr0_0 hL, Lr0_1 hL, Lr0_2 hL, Lr0_3 hL, Lr0_4 hL, Lg0_5 hL, Lp0_5 hL, Lg0_6 hL, Lp0_6 hL, Lg0_7 hL, Lp0_7 hL, Lg0_8 hL, Lp0_8 hL, Lo1 hL, Lr1_0 hL, Lr1_1 hL, Lr1_2 hL, Lr1_3 hL, Lr1_4 hL, Lr1_5 hL, Lr1_6 hL, Lg1_7 hL, Lp1_7 hL, Lo9 hL, Lr9_0 hL, Lr9_1 hL, Lr9_2 hL, Lr9_3 hL, Lr9_4 hL, Lr9_5 hL, Lg9_6 hL, Lp9_6 hL, Lg9_7 hL, Lp9_7 hL, Lo16 hL, Lr16_0 hL, Lr16_1 hL, Lg16_2 hL, Lp16_2 hL, Lo19 hL, Lr19_0 hL, Lr19_1 hL, Lr19_2 hL, Lr19_3 hL, Lr19_4 hL, Lr19_5 hL, Lg19_6 hL, Lp19_6 hL, Lg19_7 hL, Lp19_7 hL, Lo26 hL, Lr26_0 hL, Lr26_1 hL, Lr26_2 hL, Lr26_3 hL, Lr26_4 hL, Lr26_5 hL, Lg26_6 hL, Lp26_6 hL, Lg26_7 hL, Lp26_7 hL, Lg26_8 hL, Lp26_8 hL, La2 hL, Ls2 hL, La3 hL, Ls3 hL, La4 hL, Ls4 hL, La5 hL, Ls5 hL, La6 hL, Ls6 hL, La7 hL, Ls7 hL, La8 hL, Ls8 hL, La10 hL, Ls10 hL, La11 hL, Ls11 hL, La12 hL, Ls12 hL, La13 hL, Ls13 hL, La14 hL, Ls14 hL, La15 hL, Ls15 hL, La17 hL, Ls17 hL, La18 hL, Ls18 hL, La20 hL, Ls20 hL, La21 hL, Ls21 hL, La22 hL, Ls22 hL, La23 hL, Ls23 hL, La24 hL, Ls24 hL, La25 hL, Ls25 hL, La27 hL, Ls27 hL, La28 hL, Ls28 hL, La29 hL, Ls29 hL, La30 hL, Ls30 hL, La31 hL, Ls31 hL, La32 hL, Ls32 hL, ite_some, ite_pr, pX_c h1 h2 h3 h4]
theorem e_placeY (hL : LF w a) {k : Nat} (hk : k < 4) (h1 : 1 ≤ F 4 k) (h2 : F 4 k ≤ 5) (h3 : 0 ≤ F 7 k) (h4 : F 7 k < 8 * F 4 k) : f_Sirens_placeY w (zblk D a F) (a + 1) (nI k) = some (pY (F 3 k) (F 4 k) (F 7 k), zblk D a F) := by
  unfold f_Sirens_placeY
  simp (disch := omega) only [zjpE, zletE, zciE, zcvE, zchkE, nI_1, Lo0 hL, Lr0_0 hL, Lr0_1 hL, Lr0_2 hL, Lr0_3 hL, Lr0_4 hL, Lg0_5 hL, Lp0_5 hL, Lg0_6 hL, Lp0_6 hL, Lg0_7 hL, Lp0_7 hL, Lg0_8 hL, Lp0_8 hL, Lo1 hL, Lr1_0 hL, Lr1_1 hL, Lr1_2 hL, Lr1_3 hL, Lr1_4 hL, Lr1_5 hL, Lr1_6 hL, Lg1_7 hL, Lp1_7 hL, Lo9 hL, Lr9_0 hL, Lr9_1 hL, Lr9_2 hL, Lr9_3 hL, Lr9_4 hL, Lr9_5 hL, Lg9_6 hL, Lp9_6 hL, Lg9_7 hL, Lp9_7 hL, Lo16 hL, Lr16_0 hL, Lr16_1 hL, Lg16_2 hL, Lp16_2 hL, Lo19 hL, Lr19_0 hL, Lr19_1 hL, Lr19_2 hL, Lr19_3 hL, Lr19_4 hL, Lr19_5 hL, Lg19_6 hL, Lp19_6 hL, Lg19_7 hL, Lp19_7 hL, Lo26 hL, Lr26_0 hL, Lr26_1 hL, Lr26_2 hL, Lr26_3 hL, Lr26_4 hL, Lr26_5 hL, Lg26_6 hL, Lp26_6 hL, Lg26_7 hL, Lp26_7 hL, Lg26_8 hL, Lp26_8 hL, La2 hL, Ls2 hL, La3 hL, Ls3 hL, La4 hL, Ls4 hL, La5 hL, Ls5 hL, La6 hL, Ls6 hL, La7 hL, Ls7 hL, La8 hL, Ls8 hL, La10 hL, Ls10 hL, La11 hL, Ls11 hL, La12 hL, Ls12 hL, La13 hL, Ls13 hL, La14 hL, Ls14 hL, La15 hL, Ls15 hL, La17 hL, Ls17 hL, La18 hL, Ls18 hL, La20 hL, Ls20 hL, La21 hL, Ls21 hL, La22 hL, Ls22 hL, La23 hL, Ls23 hL, La24 hL, Ls24 hL, La25 hL, Ls25 hL, La27 hL, Ls27 hL, La28 hL, Ls28 hL, La29 hL, Ls29 hL, La30 hL, Ls30 hL, La31 hL, Ls31 hL, La32 hL, Ls32 hL, ite_some, ite_pr, pY_c h1 h2 h3 h4]
theorem e_xOf (hb : w.1 b = some (.inl (0, 521))) {k : Nat} (hk : k < 4) (h1 : 1 ≤ G 4 k) (h2 : G 4 k ≤ 5) (h3 : 0 ≤ G 7 k) (h4 : G 7 k < 8 * G 4 k) : f_MD_xOf w (zset D b (vec G)) b (nI k) = some (pX (G 2 k) (G 4 k) (G 7 k), zset D b (vec G)) := by
  unfold f_MD_xOf f_MD_ofSiren
  simp (disch := omega) only [zjpE, zletE, zciE, zcvE, zchkE, nI_1, Mrc0 hb, Mwc0 hb, Mrc1 hb, Mwc1 hb, Mrc2 hb, Mwc2 hb, Mrc3 hb, Mwc3 hb, Mrc4 hb, Mwc4 hb, Mrc5 hb, Mwc5 hb, Mrc6 hb, Mwc6 hb, Mrc7 hb, Mwc7 hb, Mrc8 hb, Mwc8 hb, Mrc9 hb, Mwc9 hb, Mrc10 hb, Mwc10 hb, Mrs hb, Mws hb, Mrs0 hb, Mws0 hb, Mrs1 hb, Mws1 hb, Mrs2 hb, Mws2 hb, Mrs3 hb, Mws3 hb, Mrs4 hb, Mws4 hb, Mrs5 hb, Mws5 hb, Mrs6 hb, Mws6 hb, Mrh hb, Mwh hb, Mrh0 hb, Mwh0 hb, Mrh1 hb, Mwh1 hb, Mrh2 hb, Mwh2 hb, Mrh3 hb, Mwh3 hb, Mrh4 hb, Mwh4 hb, Mrw hb, Mww hb, Mrw0 hb, Mww0 hb, Mrw1 hb, Mww1 hb, Mre hb, Mwe hb, Mre0 hb, Mwe0 hb, Mre1 hb, Mwe1 hb, Mre2 hb, Mwe2 hb, Mre3 hb, Mwe3 hb, Mre4 hb, Mwe4 hb, Mre5 hb, Mwe5 hb, Mrp hb, Mwp hb, Mrp0 hb, Mwp0 hb, Mrp1 hb, Mwp1 hb, Mrp2 hb, Mwp2 hb, Mrp3 hb, Mwp3 hb, Mrp4 hb, Mwp4 hb, Mrp5 hb, Mwp5 hb, Mrk0 hb, Mwk0 hb, Mrk1 hb, Mwk1 hb, Mrx hb, Mwx hb, Mrx0 hb, Mwx0 hb, Mrx1 hb, Mwx1 hb, Mrx2 hb, Mwx2 hb, Mrx3 hb, Mwx3 hb, Mrx4 hb, Mwx4 hb, Mrx5 hb, Mwx5 hb, Mrt0 hb, Mwt0 hb, Mrt1 hb, Mwt1 hb, ite_some, ite_pr, pX_m h1 h2 h3 h4]
theorem e_yOf (hb : w.1 b = some (.inl (0, 521))) {k : Nat} (hk : k < 4) (h1 : 1 ≤ G 4 k) (h2 : G 4 k ≤ 5) (h3 : 0 ≤ G 7 k) (h4 : G 7 k < 8 * G 4 k) : f_MD_yOf w (zset D b (vec G)) b (nI k) = some (pY (G 3 k) (G 4 k) (G 7 k), zset D b (vec G)) := by
  unfold f_MD_yOf f_MD_ofSiren
  simp (disch := omega) only [zjpE, zletE, zciE, zcvE, zchkE, nI_1, Mrc0 hb, Mwc0 hb, Mrc1 hb, Mwc1 hb, Mrc2 hb, Mwc2 hb, Mrc3 hb, Mwc3 hb, Mrc4 hb, Mwc4 hb, Mrc5 hb, Mwc5 hb, Mrc6 hb, Mwc6 hb, Mrc7 hb, Mwc7 hb, Mrc8 hb, Mwc8 hb, Mrc9 hb, Mwc9 hb, Mrc10 hb, Mwc10 hb, Mrs hb, Mws hb, Mrs0 hb, Mws0 hb, Mrs1 hb, Mws1 hb, Mrs2 hb, Mws2 hb, Mrs3 hb, Mws3 hb, Mrs4 hb, Mws4 hb, Mrs5 hb, Mws5 hb, Mrs6 hb, Mws6 hb, Mrh hb, Mwh hb, Mrh0 hb, Mwh0 hb, Mrh1 hb, Mwh1 hb, Mrh2 hb, Mwh2 hb, Mrh3 hb, Mwh3 hb, Mrh4 hb, Mwh4 hb, Mrw hb, Mww hb, Mrw0 hb, Mww0 hb, Mrw1 hb, Mww1 hb, Mre hb, Mwe hb, Mre0 hb, Mwe0 hb, Mre1 hb, Mwe1 hb, Mre2 hb, Mwe2 hb, Mre3 hb, Mwe3 hb, Mre4 hb, Mwe4 hb, Mre5 hb, Mwe5 hb, Mrp hb, Mwp hb, Mrp0 hb, Mwp0 hb, Mrp1 hb, Mwp1 hb, Mrp2 hb, Mwp2 hb, Mrp3 hb, Mwp3 hb, Mrp4 hb, Mwp4 hb, Mrp5 hb, Mwp5 hb, Mrk0 hb, Mwk0 hb, Mrk1 hb, Mwk1 hb, Mrx hb, Mwx hb, Mrx0 hb, Mwx0 hb, Mrx1 hb, Mwx1 hb, Mrx2 hb, Mwx2 hb, Mrx3 hb, Mwx3 hb, Mrx4 hb, Mwx4 hb, Mrx5 hb, Mwx5 hb, Mrt0 hb, Mwt0 hb, Mrt1 hb, Mwt1 hb, ite_some, ite_pr, pY_m h1 h2 h3 h4]
theorem e_isDue (hL : LF w a) {k : Nat} (hk : k < 4) {v : Int32} (h2 : 1 ≤ F 6 k) : f_Sirens_isDue w (zblk D a F) (a + 1) (nI k) v = some (if ¬ F 8 k = 0 ∧ zirem v (F 6 k) = 0 then 1 else 0, zblk D a F) := by
  have h3 : ¬ F 6 k ≤ 0 := by grind
  have h4 : ¬ F 6 k = 0 := by grind
  unfold f_Sirens_isDue
  simp (disch := omega) only [zjpE, zletE, zciE, zcvE, zchkE, nI_1, Lo0 hL, Lr0_0 hL, Lr0_1 hL, Lr0_2 hL, Lr0_3 hL, Lr0_4 hL, Lg0_5 hL, Lp0_5 hL, Lg0_6 hL, Lp0_6 hL, Lg0_7 hL, Lp0_7 hL, Lg0_8 hL, Lp0_8 hL, Lo1 hL, Lr1_0 hL, Lr1_1 hL, Lr1_2 hL, Lr1_3 hL, Lr1_4 hL, Lr1_5 hL, Lr1_6 hL, Lg1_7 hL, Lp1_7 hL, Lo9 hL, Lr9_0 hL, Lr9_1 hL, Lr9_2 hL, Lr9_3 hL, Lr9_4 hL, Lr9_5 hL, Lg9_6 hL, Lp9_6 hL, Lg9_7 hL, Lp9_7 hL, Lo16 hL, Lr16_0 hL, Lr16_1 hL, Lg16_2 hL, Lp16_2 hL, Lo19 hL, Lr19_0 hL, Lr19_1 hL, Lr19_2 hL, Lr19_3 hL, Lr19_4 hL, Lr19_5 hL, Lg19_6 hL, Lp19_6 hL, Lg19_7 hL, Lp19_7 hL, Lo26 hL, Lr26_0 hL, Lr26_1 hL, Lr26_2 hL, Lr26_3 hL, Lr26_4 hL, Lr26_5 hL, Lg26_6 hL, Lp26_6 hL, Lg26_7 hL, Lp26_7 hL, Lg26_8 hL, Lp26_8 hL, La2 hL, Ls2 hL, La3 hL, Ls3 hL, La4 hL, Ls4 hL, La5 hL, Ls5 hL, La6 hL, Ls6 hL, La7 hL, Ls7 hL, La8 hL, Ls8 hL, La10 hL, Ls10 hL, La11 hL, Ls11 hL, La12 hL, Ls12 hL, La13 hL, Ls13 hL, La14 hL, Ls14 hL, La15 hL, Ls15 hL, La17 hL, Ls17 hL, La18 hL, Ls18 hL, La20 hL, Ls20 hL, La21 hL, Ls21 hL, La22 hL, Ls22 hL, La23 hL, Ls23 hL, La24 hL, Ls24 hL, La25 hL, Ls25 hL, La27 hL, Ls27 hL, La28 hL, Ls28 hL, La29 hL, Ls29 hL, La30 hL, Ls30 hL, La31 hL, Ls31 hL, La32 hL, Ls32 hL]
  by_cases g1 : F 8 k = 0
  · simp [g1]
  · by_cases g2 : zirem v (F 6 k) = 0
    · simp [g1, g2, h3, h4]
    · simp [g1, g2, h3, h4]
end P39
