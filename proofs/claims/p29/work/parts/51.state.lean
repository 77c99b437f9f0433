/-! PURE: a field's state by itself; its tick as a function; many ticks; checks. -/
theorem cmp_lt {x y : Int64} : lg_cmp x y < 0 ↔ x < y := by
  unfold lg_cmp
  by_cases h1 : y < x
  · rw [if_pos h1]
    refine ⟨fun h => absurd h (by decide), fun h => ?_⟩
    grind
  · rw [if_neg h1]
    by_cases h2 : x = y
    · rw [if_pos h2]
      refine ⟨fun h => absurd h (by decide), fun h => ?_⟩
      grind
    · rw [if_neg h2]
      refine ⟨fun _ => ?_, fun _ => by decide⟩
      grind
theorem cmp_gt {x y : Int64} : 0 < lg_cmp x y ↔ y < x := by
  unfold lg_cmp
  by_cases h1 : y < x
  · rw [if_pos h1]
    exact ⟨fun _ => h1, fun _ => by decide⟩
  · rw [if_neg h1]
    by_cases h2 : x = y
    · rw [if_pos h2]
      exact ⟨fun h => absurd h (by decide), fun h => absurd h h1⟩
    · rw [if_neg h2]
      exact ⟨fun h => absurd h (by decide), fun h => absurd h h1⟩
theorem i64_lt {x y : Int32} : x.toInt64 < y.toInt64 ↔ x < y := by
  rw [Int64.lt_iff_toInt_lt, Int32.lt_iff_toInt_lt, Int32.toInt_toInt64, Int32.toInt_toInt64]
section P51
variable {A : Prop} {w : zW} {a b ns nh nw t te tp np d e l c p k B : Nat} {D : zD} {F F1 F2 G : Nat → Nat → Int32}
theorem e_within {x lo hi : Int32} : f_SF_isWithin w D x lo hi = some (if lo ≤ x ∧ x ≤ hi then 1 else 0, D) := by
  have d1 : ¬ (1 : Int32) = 0 := by decide
  unfold f_SF_isWithin
  by_cases h1 : x < lo
  · have : ¬ (lo ≤ x ∧ x ≤ hi) := fun h => by grind
    simp only [↓zjpE, ↓zletE, ↓zciE, ↓zcvE, ↓zchkE, ↓reduceIte, zciE, zcvE, nI_1, h1, this, true_or]
  · by_cases h2 : hi < x
    · have : ¬ (lo ≤ x ∧ x ≤ hi) := fun h => by grind
      simp only [↓zjpE, ↓zletE, ↓zciE, ↓zcvE, ↓zchkE, ↓reduceIte, zciE, zcvE, nI_1, h1, h2, this, true_or]
    · have : lo ≤ x ∧ x ≤ hi := by grind
      simp only [↓zjpE, ↓zletE, ↓zciE, ↓zcvE, ↓zchkE, ↓reduceIte, zciE, zcvE, nI_1, h1, h2, this, or_true, and_self]
theorem e_hasS (hL : LF w a) {x : Int32} : f_Sirens_has w (zblk D a F) (a + 1) x = some (if 0 ≤ x ∧ x < F 1 7 then 1 else 0, zblk D a F) := by
  have d1 : ¬ (1 : Int32) = 0 := by decide
  unfold f_Sirens_has
  by_cases h1 : x < 0
  · have : ¬ (0 ≤ x ∧ x < F 1 7) := fun h => by grind
    simp only [↓zjpE, ↓zletE, ↓zciE, ↓zcvE, ↓zchkE, ↓reduceIte, zciE, zcvE, nI_1, h1, this, true_or]
  · by_cases h2 : F 1 7 ≤ x
    · have : ¬ (0 ≤ x ∧ x < F 1 7) := fun h => by grind
      simp only [↓zjpE, ↓zletE, ↓zciE, ↓zcvE, ↓zchkE, ↓reduceIte, zciE, zcvE, nI_1, ↓Lo0 hL, Lo0 hL, ↓Lr0_0 hL, Lr0_0 hL, ↓Lr0_1 hL, Lr0_1 hL, ↓Lr0_2 hL, Lr0_2 hL, ↓Lr0_3 hL, Lr0_3 hL, ↓Lr0_4 hL, Lr0_4 hL, ↓Lg0_5 hL, Lg0_5 hL, ↓Lp0_5 hL, Lp0_5 hL, ↓Lg0_6 hL, Lg0_6 hL, ↓Lp0_6 hL, Lp0_6 hL, ↓Lg0_7 hL, Lg0_7 hL, ↓Lp0_7 hL, Lp0_7 hL, ↓Lg0_8 hL, Lg0_8 hL, ↓Lp0_8 hL, Lp0_8 hL, ↓Lo1 hL, Lo1 hL, ↓Lr1_0 hL, Lr1_0 hL, ↓Lr1_1 hL, Lr1_1 hL, ↓Lr1_2 hL, Lr1_2 hL, ↓Lr1_3 hL, Lr1_3 hL, ↓Lr1_4 hL, Lr1_4 hL, ↓Lr1_5 hL, Lr1_5 hL, ↓Lr1_6 hL, Lr1_6 hL, ↓Lg1_7 hL, Lg1_7 hL, ↓Lp1_7 hL, Lp1_7 hL, ↓Lo9 hL, Lo9 hL, ↓Lr9_0 hL, Lr9_0 hL, ↓Lr9_1 hL, Lr9_1 hL, ↓Lr9_2 hL, Lr9_2 hL, ↓Lr9_3 hL, Lr9_3 hL, ↓Lr9_4 hL, Lr9_4 hL, ↓Lr9_5 hL, Lr9_5 hL, ↓Lg9_6 hL, Lg9_6 hL, ↓Lp9_6 hL, Lp9_6 hL, ↓Lg9_7 hL, Lg9_7 hL, ↓Lp9_7 hL, Lp9_7 hL, ↓Lo16 hL, Lo16 hL, ↓Lr16_0 hL, Lr16_0 hL, ↓Lr16_1 hL, Lr16_1 hL, ↓Lg16_2 hL, Lg16_2 hL, ↓Lp16_2 hL, Lp16_2 hL, ↓Lo19 hL, Lo19 hL, ↓Lr19_0 hL, Lr19_0 hL, ↓Lr19_1 hL, Lr19_1 hL, ↓Lr19_2 hL, Lr19_2 hL, ↓Lr19_3 hL, Lr19_3 hL, ↓Lr19_4 hL, Lr19_4 hL, ↓Lr19_5 hL, Lr19_5 hL, ↓Lg19_6 hL, Lg19_6 hL, ↓Lp19_6 hL, Lp19_6 hL, ↓Lg19_7 hL, Lg19_7 hL, ↓Lp19_7 hL, Lp19_7 hL, ↓Lo26 hL, Lo26 hL, ↓Lr26_0 hL, Lr26_0 hL, ↓Lr26_1 hL, Lr26_1 hL, ↓Lr26_2 hL, Lr26_2 hL, ↓Lr26_3 hL, Lr26_3 hL, ↓Lr26_4 hL, Lr26_4 hL, ↓Lr26_5 hL, Lr26_5 hL, ↓Lg26_6 hL, Lg26_6 hL, ↓Lp26_6 hL, Lp26_6 hL, ↓Lg26_7 hL, Lg26_7 hL, ↓Lp26_7 hL, Lp26_7 hL, ↓Lg26_8 hL, Lg26_8 hL, ↓Lp26_8 hL, Lp26_8 hL, ↓La2 hL, La2 hL, ↓Ls2 hL, Ls2 hL, ↓La3 hL, La3 hL, ↓Ls3 hL, Ls3 hL, ↓La4 hL, La4 hL, ↓Ls4 hL, Ls4 hL, ↓La5 hL, La5 hL, ↓Ls5 hL, Ls5 hL, ↓La6 hL, La6 hL, ↓Ls6 hL, Ls6 hL, ↓La7 hL, La7 hL, ↓Ls7 hL, Ls7 hL, ↓La8 hL, La8 hL, ↓Ls8 hL, Ls8 hL, ↓La10 hL, La10 hL, ↓Ls10 hL, Ls10 hL, ↓La11 hL, La11 hL, ↓Ls11 hL, Ls11 hL, ↓La12 hL, La12 hL, ↓Ls12 hL, Ls12 hL, ↓La13 hL, La13 hL, ↓Ls13 hL, Ls13 hL, ↓La14 hL, La14 hL, ↓Ls14 hL, Ls14 hL, ↓La15 hL, La15 hL, ↓Ls15 hL, Ls15 hL, ↓La17 hL, La17 hL, ↓Ls17 hL, Ls17 hL, ↓La18 hL, La18 hL, ↓Ls18 hL, Ls18 hL, ↓La20 hL, La20 hL, ↓Ls20 hL, Ls20 hL, ↓La21 hL, La21 hL, ↓Ls21 hL, Ls21 hL, ↓La22 hL, La22 hL, ↓Ls22 hL, Ls22 hL, ↓La23 hL, La23 hL, ↓Ls23 hL, Ls23 hL, ↓La24 hL, La24 hL, ↓Ls24 hL, Ls24 hL, ↓La25 hL, La25 hL, ↓Ls25 hL, Ls25 hL, ↓La27 hL, La27 hL, ↓Ls27 hL, Ls27 hL, ↓La28 hL, La28 hL, ↓Ls28 hL, Ls28 hL, ↓La29 hL, La29 hL, ↓Ls29 hL, Ls29 hL, ↓La30 hL, La30 hL, ↓Ls30 hL, Ls30 hL, ↓La31 hL, La31 hL, ↓Ls31 hL, Ls31 hL, ↓La32 hL, La32 hL, ↓Ls32 hL, Ls32 hL, h1, h2, this, true_or]
    · have : 0 ≤ x ∧ x < F 1 7 := by grind
      simp only [↓zjpE, ↓zletE, ↓zciE, ↓zcvE, ↓zchkE, ↓reduceIte, zciE, zcvE, nI_1, ↓Lo0 hL, Lo0 hL, ↓Lr0_0 hL, Lr0_0 hL, ↓Lr0_1 hL, Lr0_1 hL, ↓Lr0_2 hL, Lr0_2 hL, ↓Lr0_3 hL, Lr0_3 hL, ↓Lr0_4 hL, Lr0_4 hL, ↓Lg0_5 hL, Lg0_5 hL, ↓Lp0_5 hL, Lp0_5 hL, ↓Lg0_6 hL, Lg0_6 hL, ↓Lp0_6 hL, Lp0_6 hL, ↓Lg0_7 hL, Lg0_7 hL, ↓Lp0_7 hL, Lp0_7 hL, ↓Lg0_8 hL, Lg0_8 hL, ↓Lp0_8 hL, Lp0_8 hL, ↓Lo1 hL, Lo1 hL, ↓Lr1_0 hL, Lr1_0 hL, ↓Lr1_1 hL, Lr1_1 hL, ↓Lr1_2 hL, Lr1_2 hL, ↓Lr1_3 hL, Lr1_3 hL, ↓Lr1_4 hL, Lr1_4 hL, ↓Lr1_5 hL, Lr1_5 hL, ↓Lr1_6 hL, Lr1_6 hL, ↓Lg1_7 hL, Lg1_7 hL, ↓Lp1_7 hL, Lp1_7 hL, ↓Lo9 hL, Lo9 hL, ↓Lr9_0 hL, Lr9_0 hL, ↓Lr9_1 hL, Lr9_1 hL, ↓Lr9_2 hL, Lr9_2 hL, ↓Lr9_3 hL, Lr9_3 hL, ↓Lr9_4 hL, Lr9_4 hL, ↓Lr9_5 hL, Lr9_5 hL, ↓Lg9_6 hL, Lg9_6 hL, ↓Lp9_6 hL, Lp9_6 hL, ↓Lg9_7 hL, Lg9_7 hL, ↓Lp9_7 hL, Lp9_7 hL, ↓Lo16 hL, Lo16 hL, ↓Lr16_0 hL, Lr16_0 hL, ↓Lr16_1 hL, Lr16_1 hL, ↓Lg16_2 hL, Lg16_2 hL, ↓Lp16_2 hL, Lp16_2 hL, ↓Lo19 hL, Lo19 hL, ↓Lr19_0 hL, Lr19_0 hL, ↓Lr19_1 hL, Lr19_1 hL, ↓Lr19_2 hL, Lr19_2 hL, ↓Lr19_3 hL, Lr19_3 hL, ↓Lr19_4 hL, Lr19_4 hL, ↓Lr19_5 hL, Lr19_5 hL, ↓Lg19_6 hL, Lg19_6 hL, ↓Lp19_6 hL, Lp19_6 hL, ↓Lg19_7 hL, Lg19_7 hL, ↓Lp19_7 hL, Lp19_7 hL, ↓Lo26 hL, Lo26 hL, ↓Lr26_0 hL, Lr26_0 hL, ↓Lr26_1 hL, Lr26_1 hL, ↓Lr26_2 hL, Lr26_2 hL, ↓Lr26_3 hL, Lr26_3 hL, ↓Lr26_4 hL, Lr26_4 hL, ↓Lr26_5 hL, Lr26_5 hL, ↓Lg26_6 hL, Lg26_6 hL, ↓Lp26_6 hL, Lp26_6 hL, ↓Lg26_7 hL, Lg26_7 hL, ↓Lp26_7 hL, Lp26_7 hL, ↓Lg26_8 hL, Lg26_8 hL, ↓Lp26_8 hL, Lp26_8 hL, ↓La2 hL, La2 hL, ↓Ls2 hL, Ls2 hL, ↓La3 hL, La3 hL, ↓Ls3 hL, Ls3 hL, ↓La4 hL, La4 hL, ↓Ls4 hL, Ls4 hL, ↓La5 hL, La5 hL, ↓Ls5 hL, Ls5 hL, ↓La6 hL, La6 hL, ↓Ls6 hL, Ls6 hL, ↓La7 hL, La7 hL, ↓Ls7 hL, Ls7 hL, ↓La8 hL, La8 hL, ↓Ls8 hL, Ls8 hL, ↓La10 hL, La10 hL, ↓Ls10 hL, Ls10 hL, ↓La11 hL, La11 hL, ↓Ls11 hL, Ls11 hL, ↓La12 hL, La12 hL, ↓Ls12 hL, Ls12 hL, ↓La13 hL, La13 hL, ↓Ls13 hL, Ls13 hL, ↓La14 hL, La14 hL, ↓Ls14 hL, Ls14 hL, ↓La15 hL, La15 hL, ↓Ls15 hL, Ls15 hL, ↓La17 hL, La17 hL, ↓Ls17 hL, Ls17 hL, ↓La18 hL, La18 hL, ↓Ls18 hL, Ls18 hL, ↓La20 hL, La20 hL, ↓Ls20 hL, Ls20 hL, ↓La21 hL, La21 hL, ↓Ls21 hL, Ls21 hL, ↓La22 hL, La22 hL, ↓Ls22 hL, Ls22 hL, ↓La23 hL, La23 hL, ↓Ls23 hL, Ls23 hL, ↓La24 hL, La24 hL, ↓Ls24 hL, Ls24 hL, ↓La25 hL, La25 hL, ↓Ls25 hL, Ls25 hL, ↓La27 hL, La27 hL, ↓Ls27 hL, Ls27 hL, ↓La28 hL, La28 hL, ↓Ls28 hL, Ls28 hL, ↓La29 hL, La29 hL, ↓Ls29 hL, Ls29 hL, ↓La30 hL, La30 hL, ↓Ls30 hL, Ls30 hL, ↓La31 hL, La31 hL, ↓Ls31 hL, Ls31 hL, ↓La32 hL, La32 hL, ↓Ls32 hL, Ls32 hL, h1, h2, this, or_true, and_self]
theorem e_hasH (hL : LF w a) {x : Int32} : f_Hearers_has w (zblk D a F) (a + 9) x = some (if 0 ≤ x ∧ x < F 9 6 then 1 else 0, zblk D a F) := by
  have d1 : ¬ (1 : Int32) = 0 := by decide
  unfold f_Hearers_has
  by_cases h1 : x < 0
  · have : ¬ (0 ≤ x ∧ x < F 9 6) := fun h => by grind
    simp only [↓zjpE, ↓zletE, ↓zciE, ↓zcvE, ↓zchkE, ↓reduceIte, zciE, zcvE, nI_1, h1, this, true_or]
  · by_cases h2 : F 9 6 ≤ x
    · have : ¬ (0 ≤ x ∧ x < F 9 6) := fun h => by grind
      simp only [↓zjpE, ↓zletE, ↓zciE, ↓zcvE, ↓zchkE, ↓reduceIte, zciE, zcvE, nI_1, ↓Lo0 hL, Lo0 hL, ↓Lr0_0 hL, Lr0_0 hL, ↓Lr0_1 hL, Lr0_1 hL, ↓Lr0_2 hL, Lr0_2 hL, ↓Lr0_3 hL, Lr0_3 hL, ↓Lr0_4 hL, Lr0_4 hL, ↓Lg0_5 hL, Lg0_5 hL, ↓Lp0_5 hL, Lp0_5 hL, ↓Lg0_6 hL, Lg0_6 hL, ↓Lp0_6 hL, Lp0_6 hL, ↓Lg0_7 hL, Lg0_7 hL, ↓Lp0_7 hL, Lp0_7 hL, ↓Lg0_8 hL, Lg0_8 hL, ↓Lp0_8 hL, Lp0_8 hL, ↓Lo1 hL, Lo1 hL, ↓Lr1_0 hL, Lr1_0 hL, ↓Lr1_1 hL, Lr1_1 hL, ↓Lr1_2 hL, Lr1_2 hL, ↓Lr1_3 hL, Lr1_3 hL, ↓Lr1_4 hL, Lr1_4 hL, ↓Lr1_5 hL, Lr1_5 hL, ↓Lr1_6 hL, Lr1_6 hL, ↓Lg1_7 hL, Lg1_7 hL, ↓Lp1_7 hL, Lp1_7 hL, ↓Lo9 hL, Lo9 hL, ↓Lr9_0 hL, Lr9_0 hL, ↓Lr9_1 hL, Lr9_1 hL, ↓Lr9_2 hL, Lr9_2 hL, ↓Lr9_3 hL, Lr9_3 hL, ↓Lr9_4 hL, Lr9_4 hL, ↓Lr9_5 hL, Lr9_5 hL, ↓Lg9_6 hL, Lg9_6 hL, ↓Lp9_6 hL, Lp9_6 hL, ↓Lg9_7 hL, Lg9_7 hL, ↓Lp9_7 hL, Lp9_7 hL, ↓Lo16 hL, Lo16 hL, ↓Lr16_0 hL, Lr16_0 hL, ↓Lr16_1 hL, Lr16_1 hL, ↓Lg16_2 hL, Lg16_2 hL, ↓Lp16_2 hL, Lp16_2 hL, ↓Lo19 hL, Lo19 hL, ↓Lr19_0 hL, Lr19_0 hL, ↓Lr19_1 hL, Lr19_1 hL, ↓Lr19_2 hL, Lr19_2 hL, ↓Lr19_3 hL, Lr19_3 hL, ↓Lr19_4 hL, Lr19_4 hL, ↓Lr19_5 hL, Lr19_5 hL, ↓Lg19_6 hL, Lg19_6 hL, ↓Lp19_6 hL, Lp19_6 hL, ↓Lg19_7 hL, Lg19_7 hL, ↓Lp19_7 hL, Lp19_7 hL, ↓Lo26 hL, Lo26 hL, ↓Lr26_0 hL, Lr26_0 hL, ↓Lr26_1 hL, Lr26_1 hL, ↓Lr26_2 hL, Lr26_2 hL, ↓Lr26_3 hL, Lr26_3 hL, ↓Lr26_4 hL, Lr26_4 hL, ↓Lr26_5 hL, Lr26_5 hL, ↓Lg26_6 hL, Lg26_6 hL, ↓Lp26_6 hL, Lp26_6 hL, ↓Lg26_7 hL, Lg26_7 hL, ↓Lp26_7 hL, Lp26_7 hL, ↓Lg26_8 hL, Lg26_8 hL, ↓Lp26_8 hL, Lp26_8 hL, ↓La2 hL, La2 hL, ↓Ls2 hL, Ls2 hL, ↓La3 hL, La3 hL, ↓Ls3 hL, Ls3 hL, ↓La4 hL, La4 hL, ↓Ls4 hL, Ls4 hL, ↓La5 hL, La5 hL, ↓Ls5 hL, Ls5 hL, ↓La6 hL, La6 hL, ↓Ls6 hL, Ls6 hL, ↓La7 hL, La7 hL, ↓Ls7 hL, Ls7 hL, ↓La8 hL, La8 hL, ↓Ls8 hL, Ls8 hL, ↓La10 hL, La10 hL, ↓Ls10 hL, Ls10 hL, ↓La11 hL, La11 hL, ↓Ls11 hL, Ls11 hL, ↓La12 hL, La12 hL, ↓Ls12 hL, Ls12 hL, ↓La13 hL, La13 hL, ↓Ls13 hL, Ls13 hL, ↓La14 hL, La14 hL, ↓Ls14 hL, Ls14 hL, ↓La15 hL, La15 hL, ↓Ls15 hL, Ls15 hL, ↓La17 hL, La17 hL, ↓Ls17 hL, Ls17 hL, ↓La18 hL, La18 hL, ↓Ls18 hL, Ls18 hL, ↓La20 hL, La20 hL, ↓Ls20 hL, Ls20 hL, ↓La21 hL, La21 hL, ↓Ls21 hL, Ls21 hL, ↓La22 hL, La22 hL, ↓Ls22 hL, Ls22 hL, ↓La23 hL, La23 hL, ↓Ls23 hL, Ls23 hL, ↓La24 hL, La24 hL, ↓Ls24 hL, Ls24 hL, ↓La25 hL, La25 hL, ↓Ls25 hL, Ls25 hL, ↓La27 hL, La27 hL, ↓Ls27 hL, Ls27 hL, ↓La28 hL, La28 hL, ↓Ls28 hL, Ls28 hL, ↓La29 hL, La29 hL, ↓Ls29 hL, Ls29 hL, ↓La30 hL, La30 hL, ↓Ls30 hL, Ls30 hL, ↓La31 hL, La31 hL, ↓Ls31 hL, Ls31 hL, ↓La32 hL, La32 hL, ↓Ls32 hL, Ls32 hL, h1, h2, this, true_or]
    · have : 0 ≤ x ∧ x < F 9 6 := by grind
      simp only [↓zjpE, ↓zletE, ↓zciE, ↓zcvE, ↓zchkE, ↓reduceIte, zciE, zcvE, nI_1, ↓Lo0 hL, Lo0 hL, ↓Lr0_0 hL, Lr0_0 hL, ↓Lr0_1 hL, Lr0_1 hL, ↓Lr0_2 hL, Lr0_2 hL, ↓Lr0_3 hL, Lr0_3 hL, ↓Lr0_4 hL, Lr0_4 hL, ↓Lg0_5 hL, Lg0_5 hL, ↓Lp0_5 hL, Lp0_5 hL, ↓Lg0_6 hL, Lg0_6 hL, ↓Lp0_6 hL, Lp0_6 hL, ↓Lg0_7 hL, Lg0_7 hL, ↓Lp0_7 hL, Lp0_7 hL, ↓Lg0_8 hL, Lg0_8 hL, ↓Lp0_8 hL, Lp0_8 hL, ↓Lo1 hL, Lo1 hL, ↓Lr1_0 hL, Lr1_0 hL, ↓Lr1_1 hL, Lr1_1 hL, ↓Lr1_2 hL, Lr1_2 hL, ↓Lr1_3 hL, Lr1_3 hL, ↓Lr1_4 hL, Lr1_4 hL, ↓Lr1_5 hL, Lr1_5 hL, ↓Lr1_6 hL, Lr1_6 hL, ↓Lg1_7 hL, Lg1_7 hL, ↓Lp1_7 hL, Lp1_7 hL, ↓Lo9 hL, Lo9 hL, ↓Lr9_0 hL, Lr9_0 hL, ↓Lr9_1 hL, Lr9_1 hL, ↓Lr9_2 hL, Lr9_2 hL, ↓Lr9_3 hL, Lr9_3 hL, ↓Lr9_4 hL, Lr9_4 hL, ↓Lr9_5 hL, Lr9_5 hL, ↓Lg9_6 hL, Lg9_6 hL, ↓Lp9_6 hL, Lp9_6 hL, ↓Lg9_7 hL, Lg9_7 hL, ↓Lp9_7 hL, Lp9_7 hL, ↓Lo16 hL, Lo16 hL, ↓Lr16_0 hL, Lr16_0 hL, ↓Lr16_1 hL, Lr16_1 hL, ↓Lg16_2 hL, Lg16_2 hL, ↓Lp16_2 hL, Lp16_2 hL, ↓Lo19 hL, Lo19 hL, ↓Lr19_0 hL, Lr19_0 hL, ↓Lr19_1 hL, Lr19_1 hL, ↓Lr19_2 hL, Lr19_2 hL, ↓Lr19_3 hL, Lr19_3 hL, ↓Lr19_4 hL, Lr19_4 hL, ↓Lr19_5 hL, Lr19_5 hL, ↓Lg19_6 hL, Lg19_6 hL, ↓Lp19_6 hL, Lp19_6 hL, ↓Lg19_7 hL, Lg19_7 hL, ↓Lp19_7 hL, Lp19_7 hL, ↓Lo26 hL, Lo26 hL, ↓Lr26_0 hL, Lr26_0 hL, ↓Lr26_1 hL, Lr26_1 hL, ↓Lr26_2 hL, Lr26_2 hL, ↓Lr26_3 hL, Lr26_3 hL, ↓Lr26_4 hL, Lr26_4 hL, ↓Lr26_5 hL, Lr26_5 hL, ↓Lg26_6 hL, Lg26_6 hL, ↓Lp26_6 hL, Lp26_6 hL, ↓Lg26_7 hL, Lg26_7 hL, ↓Lp26_7 hL, Lp26_7 hL, ↓Lg26_8 hL, Lg26_8 hL, ↓Lp26_8 hL, Lp26_8 hL, ↓La2 hL, La2 hL, ↓Ls2 hL, Ls2 hL, ↓La3 hL, La3 hL, ↓Ls3 hL, Ls3 hL, ↓La4 hL, La4 hL, ↓Ls4 hL, Ls4 hL, ↓La5 hL, La5 hL, ↓Ls5 hL, Ls5 hL, ↓La6 hL, La6 hL, ↓Ls6 hL, Ls6 hL, ↓La7 hL, La7 hL, ↓Ls7 hL, Ls7 hL, ↓La8 hL, La8 hL, ↓Ls8 hL, Ls8 hL, ↓La10 hL, La10 hL, ↓Ls10 hL, Ls10 hL, ↓La11 hL, La11 hL, ↓Ls11 hL, Ls11 hL, ↓La12 hL, La12 hL, ↓Ls12 hL, Ls12 hL, ↓La13 hL, La13 hL, ↓Ls13 hL, Ls13 hL, ↓La14 hL, La14 hL, ↓Ls14 hL, Ls14 hL, ↓La15 hL, La15 hL, ↓Ls15 hL, Ls15 hL, ↓La17 hL, La17 hL, ↓Ls17 hL, Ls17 hL, ↓La18 hL, La18 hL, ↓Ls18 hL, Ls18 hL, ↓La20 hL, La20 hL, ↓Ls20 hL, Ls20 hL, ↓La21 hL, La21 hL, ↓Ls21 hL, Ls21 hL, ↓La22 hL, La22 hL, ↓Ls22 hL, Ls22 hL, ↓La23 hL, La23 hL, ↓Ls23 hL, Ls23 hL, ↓La24 hL, La24 hL, ↓Ls24 hL, Ls24 hL, ↓La25 hL, La25 hL, ↓Ls25 hL, Ls25 hL, ↓La27 hL, La27 hL, ↓Ls27 hL, Ls27 hL, ↓La28 hL, La28 hL, ↓Ls28 hL, Ls28 hL, ↓La29 hL, La29 hL, ↓Ls29 hL, Ls29 hL, ↓La30 hL, La30 hL, ↓Ls30 hL, Ls30 hL, ↓La31 hL, La31 hL, ↓Ls31 hL, Ls31 hL, ↓La32 hL, La32 hL, ↓Ls32 hL, Ls32 hL, h1, h2, this, or_true, and_self]
theorem e_hasW (hL : LF w a) {x : Int32} : f_Walls_has w (zblk D a F) (a + 16) x = some (if 0 ≤ x ∧ x < F 16 2 then 1 else 0, zblk D a F) := by
  have d1 : ¬ (1 : Int32) = 0 := by decide
  unfold f_Walls_has
  by_cases h1 : x < 0
  · have : ¬ (0 ≤ x ∧ x < F 16 2) := fun h => by grind
    simp only [↓zjpE, ↓zletE, ↓zciE, ↓zcvE, ↓zchkE, ↓reduceIte, zciE, zcvE, nI_1, h1, this, true_or]
  · by_cases h2 : F 16 2 ≤ x
    · have : ¬ (0 ≤ x ∧ x < F 16 2) := fun h => by grind
      simp only [↓zjpE, ↓zletE, ↓zciE, ↓zcvE, ↓zchkE, ↓reduceIte, zciE, zcvE, nI_1, ↓Lo0 hL, Lo0 hL, ↓Lr0_0 hL, Lr0_0 hL, ↓Lr0_1 hL, Lr0_1 hL, ↓Lr0_2 hL, Lr0_2 hL, ↓Lr0_3 hL, Lr0_3 hL, ↓Lr0_4 hL, Lr0_4 hL, ↓Lg0_5 hL, Lg0_5 hL, ↓Lp0_5 hL, Lp0_5 hL, ↓Lg0_6 hL, Lg0_6 hL, ↓Lp0_6 hL, Lp0_6 hL, ↓Lg0_7 hL, Lg0_7 hL, ↓Lp0_7 hL, Lp0_7 hL, ↓Lg0_8 hL, Lg0_8 hL, ↓Lp0_8 hL, Lp0_8 hL, ↓Lo1 hL, Lo1 hL, ↓Lr1_0 hL, Lr1_0 hL, ↓Lr1_1 hL, Lr1_1 hL, ↓Lr1_2 hL, Lr1_2 hL, ↓Lr1_3 hL, Lr1_3 hL, ↓Lr1_4 hL, Lr1_4 hL, ↓Lr1_5 hL, Lr1_5 hL, ↓Lr1_6 hL, Lr1_6 hL, ↓Lg1_7 hL, Lg1_7 hL, ↓Lp1_7 hL, Lp1_7 hL, ↓Lo9 hL, Lo9 hL, ↓Lr9_0 hL, Lr9_0 hL, ↓Lr9_1 hL, Lr9_1 hL, ↓Lr9_2 hL, Lr9_2 hL, ↓Lr9_3 hL, Lr9_3 hL, ↓Lr9_4 hL, Lr9_4 hL, ↓Lr9_5 hL, Lr9_5 hL, ↓Lg9_6 hL, Lg9_6 hL, ↓Lp9_6 hL, Lp9_6 hL, ↓Lg9_7 hL, Lg9_7 hL, ↓Lp9_7 hL, Lp9_7 hL, ↓Lo16 hL, Lo16 hL, ↓Lr16_0 hL, Lr16_0 hL, ↓Lr16_1 hL, Lr16_1 hL, ↓Lg16_2 hL, Lg16_2 hL, ↓Lp16_2 hL, Lp16_2 hL, ↓Lo19 hL, Lo19 hL, ↓Lr19_0 hL, Lr19_0 hL, ↓Lr19_1 hL, Lr19_1 hL, ↓Lr19_2 hL, Lr19_2 hL, ↓Lr19_3 hL, Lr19_3 hL, ↓Lr19_4 hL, Lr19_4 hL, ↓Lr19_5 hL, Lr19_5 hL, ↓Lg19_6 hL, Lg19_6 hL, ↓Lp19_6 hL, Lp19_6 hL, ↓Lg19_7 hL, Lg19_7 hL, ↓Lp19_7 hL, Lp19_7 hL, ↓Lo26 hL, Lo26 hL, ↓Lr26_0 hL, Lr26_0 hL, ↓Lr26_1 hL, Lr26_1 hL, ↓Lr26_2 hL, Lr26_2 hL, ↓Lr26_3 hL, Lr26_3 hL, ↓Lr26_4 hL, Lr26_4 hL, ↓Lr26_5 hL, Lr26_5 hL, ↓Lg26_6 hL, Lg26_6 hL, ↓Lp26_6 hL, Lp26_6 hL, ↓Lg26_7 hL, Lg26_7 hL, ↓Lp26_7 hL, Lp26_7 hL, ↓Lg26_8 hL, Lg26_8 hL, ↓Lp26_8 hL, Lp26_8 hL, ↓La2 hL, La2 hL, ↓Ls2 hL, Ls2 hL, ↓La3 hL, La3 hL, ↓Ls3 hL, Ls3 hL, ↓La4 hL, La4 hL, ↓Ls4 hL, Ls4 hL, ↓La5 hL, La5 hL, ↓Ls5 hL, Ls5 hL, ↓La6 hL, La6 hL, ↓Ls6 hL, Ls6 hL, ↓La7 hL, La7 hL, ↓Ls7 hL, Ls7 hL, ↓La8 hL, La8 hL, ↓Ls8 hL, Ls8 hL, ↓La10 hL, La10 hL, ↓Ls10 hL, Ls10 hL, ↓La11 hL, La11 hL, ↓Ls11 hL, Ls11 hL, ↓La12 hL, La12 hL, ↓Ls12 hL, Ls12 hL, ↓La13 hL, La13 hL, ↓Ls13 hL, Ls13 hL, ↓La14 hL, La14 hL, ↓Ls14 hL, Ls14 hL, ↓La15 hL, La15 hL, ↓Ls15 hL, Ls15 hL, ↓La17 hL, La17 hL, ↓Ls17 hL, Ls17 hL, ↓La18 hL, La18 hL, ↓Ls18 hL, Ls18 hL, ↓La20 hL, La20 hL, ↓Ls20 hL, Ls20 hL, ↓La21 hL, La21 hL, ↓Ls21 hL, Ls21 hL, ↓La22 hL, La22 hL, ↓Ls22 hL, Ls22 hL, ↓La23 hL, La23 hL, ↓Ls23 hL, Ls23 hL, ↓La24 hL, La24 hL, ↓Ls24 hL, Ls24 hL, ↓La25 hL, La25 hL, ↓Ls25 hL, Ls25 hL, ↓La27 hL, La27 hL, ↓Ls27 hL, Ls27 hL, ↓La28 hL, La28 hL, ↓Ls28 hL, Ls28 hL, ↓La29 hL, La29 hL, ↓Ls29 hL, Ls29 hL, ↓La30 hL, La30 hL, ↓Ls30 hL, Ls30 hL, ↓La31 hL, La31 hL, ↓Ls31 hL, Ls31 hL, ↓La32 hL, La32 hL, ↓Ls32 hL, Ls32 hL, h1, h2, this, true_or]
    · have : 0 ≤ x ∧ x < F 16 2 := by grind
      simp only [↓zjpE, ↓zletE, ↓zciE, ↓zcvE, ↓zchkE, ↓reduceIte, zciE, zcvE, nI_1, ↓Lo0 hL, Lo0 hL, ↓Lr0_0 hL, Lr0_0 hL, ↓Lr0_1 hL, Lr0_1 hL, ↓Lr0_2 hL, Lr0_2 hL, ↓Lr0_3 hL, Lr0_3 hL, ↓Lr0_4 hL, Lr0_4 hL, ↓Lg0_5 hL, Lg0_5 hL, ↓Lp0_5 hL, Lp0_5 hL, ↓Lg0_6 hL, Lg0_6 hL, ↓Lp0_6 hL, Lp0_6 hL, ↓Lg0_7 hL, Lg0_7 hL, ↓Lp0_7 hL, Lp0_7 hL, ↓Lg0_8 hL, Lg0_8 hL, ↓Lp0_8 hL, Lp0_8 hL, ↓Lo1 hL, Lo1 hL, ↓Lr1_0 hL, Lr1_0 hL, ↓Lr1_1 hL, Lr1_1 hL, ↓Lr1_2 hL, Lr1_2 hL, ↓Lr1_3 hL, Lr1_3 hL, ↓Lr1_4 hL, Lr1_4 hL, ↓Lr1_5 hL, Lr1_5 hL, ↓Lr1_6 hL, Lr1_6 hL, ↓Lg1_7 hL, Lg1_7 hL, ↓Lp1_7 hL, Lp1_7 hL, ↓Lo9 hL, Lo9 hL, ↓Lr9_0 hL, Lr9_0 hL, ↓Lr9_1 hL, Lr9_1 hL, ↓Lr9_2 hL, Lr9_2 hL, ↓Lr9_3 hL, Lr9_3 hL, ↓Lr9_4 hL, Lr9_4 hL, ↓Lr9_5 hL, Lr9_5 hL, ↓Lg9_6 hL, Lg9_6 hL, ↓Lp9_6 hL, Lp9_6 hL, ↓Lg9_7 hL, Lg9_7 hL, ↓Lp9_7 hL, Lp9_7 hL, ↓Lo16 hL, Lo16 hL, ↓Lr16_0 hL, Lr16_0 hL, ↓Lr16_1 hL, Lr16_1 hL, ↓Lg16_2 hL, Lg16_2 hL, ↓Lp16_2 hL, Lp16_2 hL, ↓Lo19 hL, Lo19 hL, ↓Lr19_0 hL, Lr19_0 hL, ↓Lr19_1 hL, Lr19_1 hL, ↓Lr19_2 hL, Lr19_2 hL, ↓Lr19_3 hL, Lr19_3 hL, ↓Lr19_4 hL, Lr19_4 hL, ↓Lr19_5 hL, Lr19_5 hL, ↓Lg19_6 hL, Lg19_6 hL, ↓Lp19_6 hL, Lp19_6 hL, ↓Lg19_7 hL, Lg19_7 hL, ↓Lp19_7 hL, Lp19_7 hL, ↓Lo26 hL, Lo26 hL, ↓Lr26_0 hL, Lr26_0 hL, ↓Lr26_1 hL, Lr26_1 hL, ↓Lr26_2 hL, Lr26_2 hL, ↓Lr26_3 hL, Lr26_3 hL, ↓Lr26_4 hL, Lr26_4 hL, ↓Lr26_5 hL, Lr26_5 hL, ↓Lg26_6 hL, Lg26_6 hL, ↓Lp26_6 hL, Lp26_6 hL, ↓Lg26_7 hL, Lg26_7 hL, ↓Lp26_7 hL, Lp26_7 hL, ↓Lg26_8 hL, Lg26_8 hL, ↓Lp26_8 hL, Lp26_8 hL, ↓La2 hL, La2 hL, ↓Ls2 hL, Ls2 hL, ↓La3 hL, La3 hL, ↓Ls3 hL, Ls3 hL, ↓La4 hL, La4 hL, ↓Ls4 hL, Ls4 hL, ↓La5 hL, La5 hL, ↓Ls5 hL, Ls5 hL, ↓La6 hL, La6 hL, ↓Ls6 hL, Ls6 hL, ↓La7 hL, La7 hL, ↓Ls7 hL, Ls7 hL, ↓La8 hL, La8 hL, ↓Ls8 hL, Ls8 hL, ↓La10 hL, La10 hL, ↓Ls10 hL, Ls10 hL, ↓La11 hL, La11 hL, ↓Ls11 hL, Ls11 hL, ↓La12 hL, La12 hL, ↓Ls12 hL, Ls12 hL, ↓La13 hL, La13 hL, ↓Ls13 hL, Ls13 hL, ↓La14 hL, La14 hL, ↓Ls14 hL, Ls14 hL, ↓La15 hL, La15 hL, ↓Ls15 hL, Ls15 hL, ↓La17 hL, La17 hL, ↓Ls17 hL, Ls17 hL, ↓La18 hL, La18 hL, ↓Ls18 hL, Ls18 hL, ↓La20 hL, La20 hL, ↓Ls20 hL, Ls20 hL, ↓La21 hL, La21 hL, ↓Ls21 hL, Ls21 hL, ↓La22 hL, La22 hL, ↓Ls22 hL, Ls22 hL, ↓La23 hL, La23 hL, ↓Ls23 hL, Ls23 hL, ↓La24 hL, La24 hL, ↓Ls24 hL, Ls24 hL, ↓La25 hL, La25 hL, ↓Ls25 hL, Ls25 hL, ↓La27 hL, La27 hL, ↓Ls27 hL, Ls27 hL, ↓La28 hL, La28 hL, ↓Ls28 hL, Ls28 hL, ↓La29 hL, La29 hL, ↓Ls29 hL, Ls29 hL, ↓La30 hL, La30 hL, ↓Ls30 hL, Ls30 hL, ↓La31 hL, La31 hL, ↓Ls31 hL, Ls31 hL, ↓La32 hL, La32 hL, ↓Ls32 hL, Ls32 hL, h1, h2, this, or_true, and_self]
theorem e_hasP (hL : LF w a) {x y : Int32} : f_Field_hasPair w (zblk D a F) a x y = some (if (0 ≤ x ∧ x < F 9 6) ∧ (0 ≤ y ∧ y < F 1 7) then 1 else 0, zblk D a F) := by
  have d1 : ¬ (1 : Int32) = 0 := by decide
  have e1 := @e_hasH w a D F hL x
  have e2 := @e_hasS w a D F hL y
  unfold f_Field_hasPair
  by_cases h1 : 0 ≤ x ∧ x < F 9 6
  · rw [if_pos h1] at e1
    by_cases h2 : 0 ≤ y ∧ y < F 1 7
    · rw [if_pos h2] at e2
      rw [if_pos ⟨h1, h2⟩]
      simp only [↓zjpE, ↓zletE, ↓zciE, ↓zcvE, ↓zchkE, ↓reduceIte, zciE, zcvE, nI_1, ↓Lo0 hL, Lo0 hL, ↓Lr0_0 hL, Lr0_0 hL, ↓Lr0_1 hL, Lr0_1 hL, ↓Lr0_2 hL, Lr0_2 hL, ↓Lr0_3 hL, Lr0_3 hL, ↓Lr0_4 hL, Lr0_4 hL, ↓Lg0_5 hL, Lg0_5 hL, ↓Lp0_5 hL, Lp0_5 hL, ↓Lg0_6 hL, Lg0_6 hL, ↓Lp0_6 hL, Lp0_6 hL, ↓Lg0_7 hL, Lg0_7 hL, ↓Lp0_7 hL, Lp0_7 hL, ↓Lg0_8 hL, Lg0_8 hL, ↓Lp0_8 hL, Lp0_8 hL, ↓Lo1 hL, Lo1 hL, ↓Lr1_0 hL, Lr1_0 hL, ↓Lr1_1 hL, Lr1_1 hL, ↓Lr1_2 hL, Lr1_2 hL, ↓Lr1_3 hL, Lr1_3 hL, ↓Lr1_4 hL, Lr1_4 hL, ↓Lr1_5 hL, Lr1_5 hL, ↓Lr1_6 hL, Lr1_6 hL, ↓Lg1_7 hL, Lg1_7 hL, ↓Lp1_7 hL, Lp1_7 hL, ↓Lo9 hL, Lo9 hL, ↓Lr9_0 hL, Lr9_0 hL, ↓Lr9_1 hL, Lr9_1 hL, ↓Lr9_2 hL, Lr9_2 hL, ↓Lr9_3 hL, Lr9_3 hL, ↓Lr9_4 hL, Lr9_4 hL, ↓Lr9_5 hL, Lr9_5 hL, ↓Lg9_6 hL, Lg9_6 hL, ↓Lp9_6 hL, Lp9_6 hL, ↓Lg9_7 hL, Lg9_7 hL, ↓Lp9_7 hL, Lp9_7 hL, ↓Lo16 hL, Lo16 hL, ↓Lr16_0 hL, Lr16_0 hL, ↓Lr16_1 hL, Lr16_1 hL, ↓Lg16_2 hL, Lg16_2 hL, ↓Lp16_2 hL, Lp16_2 hL, ↓Lo19 hL, Lo19 hL, ↓Lr19_0 hL, Lr19_0 hL, ↓Lr19_1 hL, Lr19_1 hL, ↓Lr19_2 hL, Lr19_2 hL, ↓Lr19_3 hL, Lr19_3 hL, ↓Lr19_4 hL, Lr19_4 hL, ↓Lr19_5 hL, Lr19_5 hL, ↓Lg19_6 hL, Lg19_6 hL, ↓Lp19_6 hL, Lp19_6 hL, ↓Lg19_7 hL, Lg19_7 hL, ↓Lp19_7 hL, Lp19_7 hL, ↓Lo26 hL, Lo26 hL, ↓Lr26_0 hL, Lr26_0 hL, ↓Lr26_1 hL, Lr26_1 hL, ↓Lr26_2 hL, Lr26_2 hL, ↓Lr26_3 hL, Lr26_3 hL, ↓Lr26_4 hL, Lr26_4 hL, ↓Lr26_5 hL, Lr26_5 hL, ↓Lg26_6 hL, Lg26_6 hL, ↓Lp26_6 hL, Lp26_6 hL, ↓Lg26_7 hL, Lg26_7 hL, ↓Lp26_7 hL, Lp26_7 hL, ↓Lg26_8 hL, Lg26_8 hL, ↓Lp26_8 hL, Lp26_8 hL, ↓La2 hL, La2 hL, ↓Ls2 hL, Ls2 hL, ↓La3 hL, La3 hL, ↓Ls3 hL, Ls3 hL, ↓La4 hL, La4 hL, ↓Ls4 hL, Ls4 hL, ↓La5 hL, La5 hL, ↓Ls5 hL, Ls5 hL, ↓La6 hL, La6 hL, ↓Ls6 hL, Ls6 hL, ↓La7 hL, La7 hL, ↓Ls7 hL, Ls7 hL, ↓La8 hL, La8 hL, ↓Ls8 hL, Ls8 hL, ↓La10 hL, La10 hL, ↓Ls10 hL, Ls10 hL, ↓La11 hL, La11 hL, ↓Ls11 hL, Ls11 hL, ↓La12 hL, La12 hL, ↓Ls12 hL, Ls12 hL, ↓La13 hL, La13 hL, ↓Ls13 hL, Ls13 hL, ↓La14 hL, La14 hL, ↓Ls14 hL, Ls14 hL, ↓La15 hL, La15 hL, ↓Ls15 hL, Ls15 hL, ↓La17 hL, La17 hL, ↓Ls17 hL, Ls17 hL, ↓La18 hL, La18 hL, ↓Ls18 hL, Ls18 hL, ↓La20 hL, La20 hL, ↓Ls20 hL, Ls20 hL, ↓La21 hL, La21 hL, ↓Ls21 hL, Ls21 hL, ↓La22 hL, La22 hL, ↓Ls22 hL, Ls22 hL, ↓La23 hL, La23 hL, ↓Ls23 hL, Ls23 hL, ↓La24 hL, La24 hL, ↓Ls24 hL, Ls24 hL, ↓La25 hL, La25 hL, ↓Ls25 hL, Ls25 hL, ↓La27 hL, La27 hL, ↓Ls27 hL, Ls27 hL, ↓La28 hL, La28 hL, ↓Ls28 hL, Ls28 hL, ↓La29 hL, La29 hL, ↓Ls29 hL, Ls29 hL, ↓La30 hL, La30 hL, ↓Ls30 hL, Ls30 hL, ↓La31 hL, La31 hL, ↓Ls31 hL, Ls31 hL, ↓La32 hL, La32 hL, ↓Ls32 hL, Ls32 hL, ↓zciX e1, ↓zciX e2, d1, or_true]
    · rw [if_neg h2] at e2
      rw [if_neg (fun hx => h2 hx.2)]
      simp only [↓zjpE, ↓zletE, ↓zciE, ↓zcvE, ↓zchkE, ↓reduceIte, zciE, zcvE, nI_1, ↓Lo0 hL, Lo0 hL, ↓Lr0_0 hL, Lr0_0 hL, ↓Lr0_1 hL, Lr0_1 hL, ↓Lr0_2 hL, Lr0_2 hL, ↓Lr0_3 hL, Lr0_3 hL, ↓Lr0_4 hL, Lr0_4 hL, ↓Lg0_5 hL, Lg0_5 hL, ↓Lp0_5 hL, Lp0_5 hL, ↓Lg0_6 hL, Lg0_6 hL, ↓Lp0_6 hL, Lp0_6 hL, ↓Lg0_7 hL, Lg0_7 hL, ↓Lp0_7 hL, Lp0_7 hL, ↓Lg0_8 hL, Lg0_8 hL, ↓Lp0_8 hL, Lp0_8 hL, ↓Lo1 hL, Lo1 hL, ↓Lr1_0 hL, Lr1_0 hL, ↓Lr1_1 hL, Lr1_1 hL, ↓Lr1_2 hL, Lr1_2 hL, ↓Lr1_3 hL, Lr1_3 hL, ↓Lr1_4 hL, Lr1_4 hL, ↓Lr1_5 hL, Lr1_5 hL, ↓Lr1_6 hL, Lr1_6 hL, ↓Lg1_7 hL, Lg1_7 hL, ↓Lp1_7 hL, Lp1_7 hL, ↓Lo9 hL, Lo9 hL, ↓Lr9_0 hL, Lr9_0 hL, ↓Lr9_1 hL, Lr9_1 hL, ↓Lr9_2 hL, Lr9_2 hL, ↓Lr9_3 hL, Lr9_3 hL, ↓Lr9_4 hL, Lr9_4 hL, ↓Lr9_5 hL, Lr9_5 hL, ↓Lg9_6 hL, Lg9_6 hL, ↓Lp9_6 hL, Lp9_6 hL, ↓Lg9_7 hL, Lg9_7 hL, ↓Lp9_7 hL, Lp9_7 hL, ↓Lo16 hL, Lo16 hL, ↓Lr16_0 hL, Lr16_0 hL, ↓Lr16_1 hL, Lr16_1 hL, ↓Lg16_2 hL, Lg16_2 hL, ↓Lp16_2 hL, Lp16_2 hL, ↓Lo19 hL, Lo19 hL, ↓Lr19_0 hL, Lr19_0 hL, ↓Lr19_1 hL, Lr19_1 hL, ↓Lr19_2 hL, Lr19_2 hL, ↓Lr19_3 hL, Lr19_3 hL, ↓Lr19_4 hL, Lr19_4 hL, ↓Lr19_5 hL, Lr19_5 hL, ↓Lg19_6 hL, Lg19_6 hL, ↓Lp19_6 hL, Lp19_6 hL, ↓Lg19_7 hL, Lg19_7 hL, ↓Lp19_7 hL, Lp19_7 hL, ↓Lo26 hL, Lo26 hL, ↓Lr26_0 hL, Lr26_0 hL, ↓Lr26_1 hL, Lr26_1 hL, ↓Lr26_2 hL, Lr26_2 hL, ↓Lr26_3 hL, Lr26_3 hL, ↓Lr26_4 hL, Lr26_4 hL, ↓Lr26_5 hL, Lr26_5 hL, ↓Lg26_6 hL, Lg26_6 hL, ↓Lp26_6 hL, Lp26_6 hL, ↓Lg26_7 hL, Lg26_7 hL, ↓Lp26_7 hL, Lp26_7 hL, ↓Lg26_8 hL, Lg26_8 hL, ↓Lp26_8 hL, Lp26_8 hL, ↓La2 hL, La2 hL, ↓Ls2 hL, Ls2 hL, ↓La3 hL, La3 hL, ↓Ls3 hL, Ls3 hL, ↓La4 hL, La4 hL, ↓Ls4 hL, Ls4 hL, ↓La5 hL, La5 hL, ↓Ls5 hL, Ls5 hL, ↓La6 hL, La6 hL, ↓Ls6 hL, Ls6 hL, ↓La7 hL, La7 hL, ↓Ls7 hL, Ls7 hL, ↓La8 hL, La8 hL, ↓Ls8 hL, Ls8 hL, ↓La10 hL, La10 hL, ↓Ls10 hL, Ls10 hL, ↓La11 hL, La11 hL, ↓Ls11 hL, Ls11 hL, ↓La12 hL, La12 hL, ↓Ls12 hL, Ls12 hL, ↓La13 hL, La13 hL, ↓Ls13 hL, Ls13 hL, ↓La14 hL, La14 hL, ↓Ls14 hL, Ls14 hL, ↓La15 hL, La15 hL, ↓Ls15 hL, Ls15 hL, ↓La17 hL, La17 hL, ↓Ls17 hL, Ls17 hL, ↓La18 hL, La18 hL, ↓Ls18 hL, Ls18 hL, ↓La20 hL, La20 hL, ↓Ls20 hL, Ls20 hL, ↓La21 hL, La21 hL, ↓Ls21 hL, Ls21 hL, ↓La22 hL, La22 hL, ↓Ls22 hL, Ls22 hL, ↓La23 hL, La23 hL, ↓Ls23 hL, Ls23 hL, ↓La24 hL, La24 hL, ↓Ls24 hL, Ls24 hL, ↓La25 hL, La25 hL, ↓Ls25 hL, Ls25 hL, ↓La27 hL, La27 hL, ↓Ls27 hL, Ls27 hL, ↓La28 hL, La28 hL, ↓Ls28 hL, Ls28 hL, ↓La29 hL, La29 hL, ↓Ls29 hL, Ls29 hL, ↓La30 hL, La30 hL, ↓Ls30 hL, Ls30 hL, ↓La31 hL, La31 hL, ↓Ls31 hL, Ls31 hL, ↓La32 hL, La32 hL, ↓Ls32 hL, Ls32 hL, ↓zciX e1, ↓zciX e2, d1, true_or]
  · rw [if_neg h1] at e1
    rw [if_neg (fun hx => h1 hx.1)]
    simp only [↓zjpE, ↓zletE, ↓zciE, ↓zcvE, ↓zchkE, ↓reduceIte, zciE, zcvE, nI_1, ↓Lo0 hL, Lo0 hL, ↓Lr0_0 hL, Lr0_0 hL, ↓Lr0_1 hL, Lr0_1 hL, ↓Lr0_2 hL, Lr0_2 hL, ↓Lr0_3 hL, Lr0_3 hL, ↓Lr0_4 hL, Lr0_4 hL, ↓Lg0_5 hL, Lg0_5 hL, ↓Lp0_5 hL, Lp0_5 hL, ↓Lg0_6 hL, Lg0_6 hL, ↓Lp0_6 hL, Lp0_6 hL, ↓Lg0_7 hL, Lg0_7 hL, ↓Lp0_7 hL, Lp0_7 hL, ↓Lg0_8 hL, Lg0_8 hL, ↓Lp0_8 hL, Lp0_8 hL, ↓Lo1 hL, Lo1 hL, ↓Lr1_0 hL, Lr1_0 hL, ↓Lr1_1 hL, Lr1_1 hL, ↓Lr1_2 hL, Lr1_2 hL, ↓Lr1_3 hL, Lr1_3 hL, ↓Lr1_4 hL, Lr1_4 hL, ↓Lr1_5 hL, Lr1_5 hL, ↓Lr1_6 hL, Lr1_6 hL, ↓Lg1_7 hL, Lg1_7 hL, ↓Lp1_7 hL, Lp1_7 hL, ↓Lo9 hL, Lo9 hL, ↓Lr9_0 hL, Lr9_0 hL, ↓Lr9_1 hL, Lr9_1 hL, ↓Lr9_2 hL, Lr9_2 hL, ↓Lr9_3 hL, Lr9_3 hL, ↓Lr9_4 hL, Lr9_4 hL, ↓Lr9_5 hL, Lr9_5 hL, ↓Lg9_6 hL, Lg9_6 hL, ↓Lp9_6 hL, Lp9_6 hL, ↓Lg9_7 hL, Lg9_7 hL, ↓Lp9_7 hL, Lp9_7 hL, ↓Lo16 hL, Lo16 hL, ↓Lr16_0 hL, Lr16_0 hL, ↓Lr16_1 hL, Lr16_1 hL, ↓Lg16_2 hL, Lg16_2 hL, ↓Lp16_2 hL, Lp16_2 hL, ↓Lo19 hL, Lo19 hL, ↓Lr19_0 hL, Lr19_0 hL, ↓Lr19_1 hL, Lr19_1 hL, ↓Lr19_2 hL, Lr19_2 hL, ↓Lr19_3 hL, Lr19_3 hL, ↓Lr19_4 hL, Lr19_4 hL, ↓Lr19_5 hL, Lr19_5 hL, ↓Lg19_6 hL, Lg19_6 hL, ↓Lp19_6 hL, Lp19_6 hL, ↓Lg19_7 hL, Lg19_7 hL, ↓Lp19_7 hL, Lp19_7 hL, ↓Lo26 hL, Lo26 hL, ↓Lr26_0 hL, Lr26_0 hL, ↓Lr26_1 hL, Lr26_1 hL, ↓Lr26_2 hL, Lr26_2 hL, ↓Lr26_3 hL, Lr26_3 hL, ↓Lr26_4 hL, Lr26_4 hL, ↓Lr26_5 hL, Lr26_5 hL, ↓Lg26_6 hL, Lg26_6 hL, ↓Lp26_6 hL, Lp26_6 hL, ↓Lg26_7 hL, Lg26_7 hL, ↓Lp26_7 hL, Lp26_7 hL, ↓Lg26_8 hL, Lg26_8 hL, ↓Lp26_8 hL, Lp26_8 hL, ↓La2 hL, La2 hL, ↓Ls2 hL, Ls2 hL, ↓La3 hL, La3 hL, ↓Ls3 hL, Ls3 hL, ↓La4 hL, La4 hL, ↓Ls4 hL, Ls4 hL, ↓La5 hL, La5 hL, ↓Ls5 hL, Ls5 hL, ↓La6 hL, La6 hL, ↓Ls6 hL, Ls6 hL, ↓La7 hL, La7 hL, ↓Ls7 hL, Ls7 hL, ↓La8 hL, La8 hL, ↓Ls8 hL, Ls8 hL, ↓La10 hL, La10 hL, ↓Ls10 hL, Ls10 hL, ↓La11 hL, La11 hL, ↓Ls11 hL, Ls11 hL, ↓La12 hL, La12 hL, ↓Ls12 hL, Ls12 hL, ↓La13 hL, La13 hL, ↓Ls13 hL, Ls13 hL, ↓La14 hL, La14 hL, ↓Ls14 hL, Ls14 hL, ↓La15 hL, La15 hL, ↓Ls15 hL, Ls15 hL, ↓La17 hL, La17 hL, ↓Ls17 hL, Ls17 hL, ↓La18 hL, La18 hL, ↓Ls18 hL, Ls18 hL, ↓La20 hL, La20 hL, ↓Ls20 hL, Ls20 hL, ↓La21 hL, La21 hL, ↓Ls21 hL, Ls21 hL, ↓La22 hL, La22 hL, ↓Ls22 hL, Ls22 hL, ↓La23 hL, La23 hL, ↓Ls23 hL, Ls23 hL, ↓La24 hL, La24 hL, ↓Ls24 hL, Ls24 hL, ↓La25 hL, La25 hL, ↓Ls25 hL, Ls25 hL, ↓La27 hL, La27 hL, ↓Ls27 hL, Ls27 hL, ↓La28 hL, La28 hL, ↓Ls28 hL, Ls28 hL, ↓La29 hL, La29 hL, ↓Ls29 hL, Ls29 hL, ↓La30 hL, La30 hL, ↓Ls30 hL, Ls30 hL, ↓La31 hL, La31 hL, ↓Ls31 hL, Ls31 hL, ↓La32 hL, La32 hL, ↓Ls32 hL, Ls32 hL, ↓zciX e1, d1, true_or]
theorem pred_le {x : Int32} {n : Nat} (hn : n ≤ 1000) : x ≤ nI n - 1 ↔ x < nI n := by
  have h1 : 0 ≤ nI n := nI_pos' (by omega)
  generalize nI n = y at *
  grind
theorem nI_has {x : Int32} {n : Nat} (h : 0 ≤ x ∧ x < nI n) (hn : n < 1000) : ∃ i, i < n ∧ x = nI i := by
  obtain ⟨j, hj, rfl⟩ := rg_nI (n := 1000) h.1 (by have := h.2; have h3 : nI n ≤ nI 1000 := nI_le (by omega) (by decide); generalize nI n = y at *; grind) (by decide)
  rw [nI_ltI (by omega) (by omega)] at h
  exact ⟨j, h.2, rfl⟩
theorem RI_tp {tp' : Nat} (h : RI F G ns nh nw t te tp A np d e l c) (ht : tp ≤ tp') : RI F G ns nh nw t te tp' A np d e l c := by
  obtain ⟨x1, x2, x3, x4, x5, x6, x7, x8, x9, x10, x11⟩ := h
  refine ⟨x1, x2, x3, x4, x5, x6, x7, x8, x9, ?_, x11⟩
  intro k hk
  obtain ⟨y1, y2, y3, y4, y5, ⟨u, hu, y6⟩, y7⟩ := x10 k hk
  exact ⟨y1, y2, y3, y4, y5, ⟨u, by omega, y6⟩, y7⟩
end P51
/-- F' is what a tick makes of F, wherever it lies -/
def U (F F' : Nat → Nat → Int32) : Prop := ∀ (w : zW) (a : Nat) (D : zD), LF w a → f_Field_tick w (zblk D a F) a = some (zblk D a F')
noncomputable def tk (F : Nat → Nat → Int32) : Nat → Nat → Int32 := Classical.epsilon (fun F' => NZ F' ∧ U F F')
noncomputable def itk (F : Nat → Nat → Int32) : Nat → (Nat → Nat → Int32)
  | 0 => F
  | n + 1 => tk (itk F n)
theorem U_inj {F F1 F2 : Nat → Nat → Int32} (h1 : U F F1) (h2 : U F F2) (z1 : NZ F1) (z2 : NZ F2) : F1 = F2 := by
  have hL : LF ((fun q => (shL 0)[q]?, fun _ _ => 0, 0) : zW) 0 := by
    intro o _
    show (shL 0)[0 + o]? = (shL 0)[o]?
    rw [Nat.zero_add]
  have e := (h1 _ 0 (fun _ _ => 0) hL).symm.trans (h2 _ 0 (fun _ _ => 0) hL)
  have e := Option.some.inj e
  funext o j
  by_cases ho : o < 33
  · have e2 := congrFun e (0 + o)
    rw [zblk_at ho, zblk_at ho] at e2
    rw [e2]
  · have hc : ¬ Cp o j := by unfold Cp; omega
    rw [z1 o j hc (by omega), z2 o j hc (by omega)]
theorem tk_spec {F F' : Nat → Nat → Int32} (hz : NZ F') (hU : U F F') : tk F = F' := by
  have h : NZ (tk F) ∧ U F (tk F) := Classical.epsilon_spec (p := fun F' => NZ F' ∧ U F F') ⟨F', hz, hU⟩
  exact U_inj h.2 hU h.1 hz
/-- a field's state at time t; pulses are not younger than tp; A: some siren may be on -/
def FS (F : Nat → Nat → Int32) (t tp : Nat) (A : Prop) : Prop := NZ F ∧ ∃ G ns nh nw np d e l, RI F G ns nh nw t t tp A np d e l (240 * t) ∧ JJ G ns nh np t d e l (16 * t)
/-- what a tick leaves as it is -/
def Kc (o j : Nat) : Prop := (o = 1 ∧ j = 7) ∨ (2 ≤ o ∧ o < 9 ∧ o ≠ 7 ∧ j < 4) ∨ (o = 9 ∧ j = 6) ∨ (o = 16 ∧ j = 2) ∨ (17 ≤ o ∧ o < 19 ∧ j < 3) ∨ (o = 0 ∧ 7 ≤ j ∧ j < 9)
theorem Kc_St {o j : Nat} (h : Kc o j) : St o j := by unfold Kc at h; unfold St; omega
theorem Kc_c {o j : Nat} (h : Kc o j) : (o = 0 ∧ 7 ≤ j) ∨ (1 ≤ o ∧ o ≠ 7 ∧ (o < 10 ∨ (16 ≤ o ∧ o < 19))) := by unfold Kc at h; omega
def Kp (F F' : Nat → Nat → Int32) : Prop := ∀ o j, Kc o j → F' o j = F o j
/-- what grows -/
def Gr (F F' : Nat → Nat → Int32) (t : Nat) : Prop := (∀ i, i < 16 → F 27 i ≤ F' 27 i) ∧ ∃ d e l d' e' l', F 26 6 = nI d ∧ F 26 7 = nI e ∧ F 26 8 = nI l ∧ F' 26 6 = nI d' ∧ F' 26 7 = nI e' ∧ F' 26 8 = nI l' ∧ d ≤ d' ∧ e ≤ e' ∧ l ≤ l' ∧ d' + e' ≤ 240 * t ∧ l' ≤ d'
theorem Kp_refl {F : Nat → Nat → Int32} : Kp F F := fun _ _ _ => rfl
theorem Kp_trans {F F1 F2 : Nat → Nat → Int32} (h : Kp F F1) (h' : Kp F1 F2) : Kp F F2 := fun o j hc => (h' o j hc).trans (h o j hc)
theorem lt_le32 {x y z : Int32} (h : x < y) (h' : y ≤ z) : x < z := by grind
theorem nI_inj {m n : Nat} (h : nI m = nI n) (hm : m < 2 ^ 31) (hn : n < 2 ^ 31) : m = n := (nI_eq hm hn).1 h
section P51b
variable {A : Prop} {w : zW} {a b ns nh nw t te tp np d e l c p k B : Nat} {D : zD} {F F1 F2 G : Nat → Nat → Int32}
theorem FS_tp {tp' : Nat} (h : FS F t tp A) (ht : tp ≤ tp') : FS F t tp' A := by
  obtain ⟨hz, G, ns, nh, nw, np, d, e, l, h1, h2⟩ := h
  exact ⟨hz, G, ns, nh, nw, np, d, e, l, RI_tp h1 ht, h2⟩
theorem FS_time (h : FS F t tp A) : F 0 5 = nI t ∧ t < 4000000 := by
  obtain ⟨hz, G, ns, nh, nw, np, d, e, l, ⟨h1, -, -, -, ⟨-, -, -, -, -, -, e5, e6⟩, -⟩, -⟩ := h
  exact ⟨by rw [r0_5 h1, e5], e6⟩
theorem FS_ns (h : FS F t tp A) : ∃ ns nh nw np, F 1 7 = nI ns ∧ ns ≤ 4 ∧ F 9 6 = nI nh ∧ nh ≤ 4 ∧ F 16 2 = nI nw ∧ nw ≤ 3 ∧ F 19 7 = nI np ∧ np ≤ 60 := by
  obtain ⟨hz, G, ns, nh, nw, np, d, e, l, ⟨h1, ⟨p, -, -, q3, -, q5, -⟩, -, -, ⟨e1, e2, e3, e4, e5, e6, -⟩, -⟩, -⟩ := h
  exact ⟨ns, nh, nw, np, by rw [r1_7 h1, e1], e2, by rw [r9_6 h1, e3], e4, by rw [r16_2 h1, e5], e6, q3, q5⟩
theorem FS_heard (h : FS F t tp A) : ∃ d e l, F 26 6 = nI d ∧ F 26 7 = nI e ∧ F 26 8 = nI l ∧ d + e ≤ 240 * t ∧ l ≤ d := by
  obtain ⟨hz, G, ns, nh, nw, np, d, e, l, ⟨h1, -, -, -, -, -, -, -, -, -, -, ⟨k1, k2, k3, k4, k5⟩, -⟩, -⟩ := h
  exact ⟨d, e, l, by rw [r26_6 h1, k1], by rw [r26_7 h1, k2], by rw [r26_8 h1, k3], k4, k5⟩
theorem FS_S (h : FS F t tp A) {n : Nat} (hn : F 1 7 = nI n) (hn4 : n ≤ 4) : IS F n := by
  obtain ⟨hz, G, ns, nh, nw, np, d, e, l, ⟨h1, -, -, -, ⟨e1, e2, -⟩, hS, -⟩, -⟩ := h
  have : n = ns := nI_inj (by rw [← hn, r1_7 h1, e1]) (by omega) (by omega)
  subst this
  intro s hs
  have := hS s hs
  rw [r2 h1 (by omega), r3 h1 (by omega), r4 h1 (by omega), r5 h1 (by omega), r6 h1 (by omega), r7 h1 (by omega), r8 h1 (by omega)]
  exact this
theorem tk_ok (h : FS F t tp A) (ht : t < 1000000) (hA : A → t + 1 ≤ tp) : FS (tk F) (t + 1) tp A ∧ U F (tk F) ∧ Kp F (tk F) ∧ (∀ n, F 1 7 = nI n → n ≤ 4 → ∀ s, s < n → (tk F) 7 s = stp F s) ∧ Gr F (tk F) (t + 1) ∧ (tp + 99 ≤ t + 1 → (tk F) 19 7 = 0) := by
  obtain ⟨hz, G, ns, nh, nw, np, d, e, l, h1, h2⟩ := h
  obtain ⟨F', G', np', d', e', l', k1, k2, k3, k4, k5, k6, k7, k8, k9, k10, k11, k12⟩ := tick h1 h2 (Nat.le_refl t) (by omega) hA (by omega) (by omega)
  have hU : U F F' := k12
  have hz' := k11 hz
  rw [tk_spec hz' hU]
  obtain ⟨x1, ⟨p', -, -, y3, -, -, -⟩, -, -, ⟨-, -, -, -, -, -, n6, n7⟩, -, -, -, xC, xP, -, ⟨z1, z2, z3, z4, z5⟩, -⟩ := id k1
  obtain ⟨w1, -, -, -, ⟨m0, m1, -⟩, -, -, -, -, -, -, ⟨v1, v2, v3, v4, v5⟩, -⟩ := id h1
  refine ⟨⟨hz', G', ns, nh, nw, np', d', e', l', ?_, ?_⟩, hU, ?_, ?_, ⟨?_, d, e, l, d', e', l', by rw [r26_6 w1, v1], by rw [r26_7 w1, v2], by rw [r26_8 w1, v3], by rw [r26_6 x1, z1], by rw [r26_7 x1, z2], by rw [r26_8 x1, z3], k3, k4, k5, by omega, z5⟩, ?_⟩
  · rw [show 240 * (t + 1) = 240 * t + 240 by omega]; exact k1
  · rw [show 16 * (t + 1) = 16 * t + 16 by omega]; exact k2
  · intro o j hc
    rw [x1 o j (Kc_St hc), w1 o j (Kc_St hc)]
    rcases Kc_c hc with ⟨ho, hj⟩ | ⟨a1, a2, a3⟩
    · subst ho; exact k8 j hj
    · rw [k7 o a1 a2 a3]
  · intro n hn hn4 s hs
    have : n = ns := nI_inj (by rw [← hn, r1_7 w1, m0]) (by omega) (by omega)
    subst this
    rw [r7 x1 (by omega), k10 s hs]
    unfold stp
    rw [r8 w1 (by omega), r7 w1 (by omega), r4 w1 (by omega), r5 w1 (by omega)]
  · intro i hi
    rw [r27 w1 hi, r27 x1 hi]; exact k9 i hi
  · intro hq
    rcases Nat.eq_zero_or_pos np' with h0 | h0
    · rw [y3, h0]; rfl
    · exfalso
      have a1 := k6 0 h0
      obtain ⟨-, -, -, -, -, ⟨u, hu, hu'⟩, -⟩ := xP 0 h0
      rw [n6, hu', pk_sub (by omega)] at a1
      have a2 : G' 0 8 ≤ 99 := xC.2.2.2
      have a3 : nI (t + 1 - u) < 99 := lt_le32 a1 a2
      rw [show (99 : Int32) = nI 99 from rfl, nI_ltI (by omega) (by decide)] at a3
      omega
theorem FS_on (h : FS F t t True) (ht : t < 1000000) : FS (tk F) (t + 1) (t + 1) True ∧ U F (tk F) ∧ Kp F (tk F) ∧ (∀ n, F 1 7 = nI n → n ≤ 4 → ∀ s, s < n → (tk F) 7 s = stp F s) ∧ Gr F (tk F) (t + 1) := by
  obtain ⟨a1, a2, a3, a4, a5, -⟩ := tk_ok (FS_tp h (Nat.le_succ t)) ht (fun _ => Nat.le_refl _)
  exact ⟨a1, a2, a3, a4, a5⟩
theorem itk_FS (h : FS F t t True) : ∀ n, t + n < 1000000 → FS (itk F n) (t + n) (t + n) True
  | 0, _ => h
  | n + 1, hn => by
    have := (FS_on (itk_FS h n (by omega)) (by omega)).1
    rw [Nat.add_assoc] at this
    exact this
theorem itk_Kp (h : FS F t t True) : ∀ n, t + n < 1000000 → Kp F (itk F n)
  | 0, _ => Kp_refl
  | n + 1, hn => Kp_trans (itk_Kp h n (by omega)) (FS_on (itk_FS h n (by omega)) (by omega)).2.2.1
theorem itk_Gr (h : FS F t t True) : ∀ n, t + n < 1000000 → Gr F (itk F n) (t + n)
  | 0, _ => by
    obtain ⟨d, e, l, a1, a2, a3, a4, a5⟩ := FS_heard h
    exact ⟨fun _ _ => le_refl32, d, e, l, d, e, l, a1, a2, a3, a1, a2, a3, Nat.le_refl _, Nat.le_refl _, Nat.le_refl _, a4, a5⟩
  | n + 1, hn => by
    have h1 := itk_FS h n (by omega)
    obtain ⟨g1, d, e, l, d', e', l', b1, b2, b3, b4, b5, b6, b7, b8, b9, b10, b11⟩ := itk_Gr h n (by omega)
    obtain ⟨g1', d1, e1, l1, d1', e1', l1', c1, c2, c3, c4, c5, c6, c7, c8, c9, c10, c11⟩ := (FS_on h1 (by omega)).2.2.2.2
    have q1 : d' = d1 := nI_inj (b4.symm.trans c1) (by omega) (by omega)
    have q2 : e' = e1 := nI_inj (b5.symm.trans c2) (by omega) (by omega)
    have q3 : l' = l1 := nI_inj (b6.symm.trans c3) (by omega) (by omega)
    subst q1 q2 q3
    exact ⟨fun i hi => le_trans32 (g1 i hi) (g1' i hi), d, e, l, d1', e1', l1', b1, b2, b3, c4, c5, c6, by omega, by omega, by omega, by omega, c11⟩
theorem itk_add : ∀ n m, itk (itk F m) n = itk F (m + n)
  | 0, _ => rfl
  | n + 1, m => by show tk (itk (itk F m) n) = tk (itk F (m + n)); rw [itk_add n m]
theorem pass_ok (h : FS F t t True) {n : Nat} (hn : n ≤ 1000) (ht : t + n < 1000000) : ∀ (w : zW) (a : Nat) (D : zD), LF w a → f_Field_pass w (zblk D a F) a (nI n) = some (zblk D a (itk F n)) := by
  obtain ⟨s', hs, q1⟩ := lpU (δ := UW) (bot := fun (_ : Int32) (_ : zD) => none) (st := fun X => S_Field_pass_S1 X.1.1 X.1.2.1 (nI n)) (n := n) (fun k s => s = itk F k) (fun X g k s => g (nI k) (zblk X.1.2.2 X.1.2.1 s)) (by
    intro k s hk hs
    subst hs
    have hc : ¬ nI n ≤ nI k := by rw [nI_leI (by omega) (by omega)]; omega
    refine ⟨_, rfl, fun X j => ?_⟩
    have hX := X.2
    have hu := (FS_on (itk_FS h k (by omega)) (by omega)).2.1 X.1.1 X.1.2.1 X.1.2.2 hX
    unfold S_Field_pass_S1
    simp only [↓zjpE, ↓zletE, ↓zciE, ↓zcvE, ↓zchkE, ↓reduceIte, zciE, zcvE, nI_1, ↓Lo0 hX, hc, ↓zcvX hu]
    rfl) n 0 F (by omega) rfl
  subst hs
  have hend : nI n ≤ nI n := nI_le (Nat.le_refl n) (by omega)
  intro w a D hL
  obtain ⟨j, hj⟩ := q1 ⟨(w, a, D), hL⟩ zfuel (by unfold zfuel; omega)
  rw [u_Field_pass]
  simp only [↓zjpE]
  refine hj.trans ?_
  unfold S_Field_pass_S1
  simp only [↓zjpE, ↓zletE, ↓zciE, ↓zcvE, ↓zchkE, ↓reduceIte, zciE, zcvE, nI_1, hend]
end P51b
