/-! PURE: what a pulse that is heard writes; the state while pulses are heard. -/
abbrev had (v : Int32) (h : Nat) : Prop := (v >>> (nI h &&& 31)) &&& 1 = 1
abbrev reach (hx hy px py c tm tk : Int32) : Prop := ab (px - hx) + ab (py - hy) ≤ c * (tm - tk)
abbrev side (u at' px py hx hy : Int32) : Prop := ((if u = 0 then py else px) < at' ∧ at' < (if u = 0 then hy else hx)) ∨ (at' < (if u = 0 then py else px) ∧ (if u = 0 then hy else hx) < at')
theorem ab_neg {x y : Int32} : ab (x - y) = ab (y - x) := by
  unfold ab
  by_cases h : 0 ≤ x - y
  · by_cases h2 : 0 ≤ y - x
    · rw [if_pos h, if_pos h2]; grind
    · rw [if_pos h, if_neg h2]; grind
  · by_cases h2 : 0 ≤ y - x
    · rw [if_neg h, if_pos h2]; grind
    · rw [if_neg h, if_neg h2]; grind
theorem taut {p q r s : Prop} [Decidable p] [Decidable q] [Decidable r] [Decidable s] {α : Type} {x y : α} : (if ¬ p then (if ¬ q then x else if ¬ s then x else y) else if r then y else (if ¬ q then x else if ¬ s then x else y)) = if (p ∧ r) ∨ (q ∧ s) then y else x := by
  by_cases hp : p <;> by_cases hq : q <;> by_cases hr : r <;> by_cases hs : s <;> simp [hp, hq, hr, hs]
def NF (F : Nat → Nat → Int32) (pr : Nat) (gv tm : Int32) : Nat → Nat → Int32 := upd2 (upd2 (upd2 (upd2 (upd2 (upd2 (upd2 F 26 6 (F 26 6 + 1)) 27 pr (F 27 pr + 1)) 26 8 (F 26 8 + if F 32 pr ≤ gv then 0 else 1)) 29 pr (F 29 pr + if F 32 pr ≤ gv then 0 else 1)) 31 pr (if F 30 pr = -1 then -1 else tm - F 30 pr)) 30 pr tm) 32 pr (if gv ≤ F 32 pr then F 32 pr else gv)
def EF (F : Nat → Nat → Int32) (pr : Nat) : Nat → Nat → Int32 := upd2 (upd2 F 26 7 (F 26 7 + 1)) 28 pr (F 28 pr + 1)
section P42
variable {A : Prop} {w : zW} {a b ns nh nw t te tp np d e l c p k d' e' l' c' B : Nat} {D : zD} {F G F' G' : Nat → Nat → Int32}
theorem e_wayTo (hL : LF w a) {h : Nat} (hh : h < 4) {x y : Int32} : f_Hearers_wayTo w (zblk D a F) (a + 9) (nI h) x y = some (ab (F 10 h - x) + ab (F 11 h - y), zblk D a F) := by
  unfold f_Hearers_wayTo
  simp (disch := omega) only [zjpE, zletE, zciE, zcvE, zchkE, nI_1, Lo0 hL, Lr0_0 hL, Lr0_1 hL, Lr0_2 hL, Lr0_3 hL, Lr0_4 hL, Lg0_5 hL, Lp0_5 hL, Lg0_6 hL, Lp0_6 hL, Lg0_7 hL, Lp0_7 hL, Lg0_8 hL, Lp0_8 hL, Lo1 hL, Lr1_0 hL, Lr1_1 hL, Lr1_2 hL, Lr1_3 hL, Lr1_4 hL, Lr1_5 hL, Lr1_6 hL, Lg1_7 hL, Lp1_7 hL, Lo9 hL, Lr9_0 hL, Lr9_1 hL, Lr9_2 hL, Lr9_3 hL, Lr9_4 hL, Lr9_5 hL, Lg9_6 hL, Lp9_6 hL, Lg9_7 hL, Lp9_7 hL, Lo16 hL, Lr16_0 hL, Lr16_1 hL, Lg16_2 hL, Lp16_2 hL, Lo19 hL, Lr19_0 hL, Lr19_1 hL, Lr19_2 hL, Lr19_3 hL, Lr19_4 hL, Lr19_5 hL, Lg19_6 hL, Lp19_6 hL, Lg19_7 hL, Lp19_7 hL, Lo26 hL, Lr26_0 hL, Lr26_1 hL, Lr26_2 hL, Lr26_3 hL, Lr26_4 hL, Lr26_5 hL, Lg26_6 hL, Lp26_6 hL, Lg26_7 hL, Lp26_7 hL, Lg26_8 hL, Lp26_8 hL, La2 hL, Ls2 hL, La3 hL, Ls3 hL, La4 hL, Ls4 hL, La5 hL, Ls5 hL, La6 hL, Ls6 hL, La7 hL, Ls7 hL, La8 hL, Ls8 hL, La10 hL, Ls10 hL, La11 hL, Ls11 hL, La12 hL, Ls12 hL, La13 hL, Ls13 hL, La14 hL, Ls14 hL, La15 hL, Ls15 hL, La17 hL, Ls17 hL, La18 hL, Ls18 hL, La20 hL, Ls20 hL, La21 hL, Ls21 hL, La22 hL, Ls22 hL, La23 hL, Ls23 hL, La24 hL, Ls24 hL, La25 hL, Ls25 hL, La27 hL, Ls27 hL, La28 hL, Ls28 hL, La29 hL, Ls29 hL, La30 hL, Ls30 hL, La31 hL, Ls31 hL, La32 hL, Ls32 hL, e_abs]
theorem e_isBetween (hL : LF w a) {i : Nat} (hi : i < nw) (hn : nw ≤ 3) (hF : F 16 2 = nI nw) {px py hx hy : Int32} : f_Walls_isBetween w (zblk D a F) (a + 16) (nI i) px py hx hy = some (if side (F 17 i) (F 18 i) px py hx hy then 1 else 0, zblk D a F) := by
  have d1 : ¬ (1 : Int32) = 0 := by decide
  have c1 : ¬ nI i < 0 := nI_pos (by omega)
  have c2 : nI i < nI nw := nI_lt hi (by omega)
  have n1 : ∀ x y : Int32, (x ≤ y) = ¬ (y < x) := by intro x y; exact propext ⟨fun h => by grind, fun h => by grind⟩
  unfold f_Walls_isBetween
  by_cases hu : F 17 i = 0
  · simp (disch := omega) only [zjpE, zletE, zciE, zcvE, zchkE, nI_1, Lo0 hL, Lr0_0 hL, Lr0_1 hL, Lr0_2 hL, Lr0_3 hL, Lr0_4 hL, Lg0_5 hL, Lp0_5 hL, Lg0_6 hL, Lp0_6 hL, Lg0_7 hL, Lp0_7 hL, Lg0_8 hL, Lp0_8 hL, Lo1 hL, Lr1_0 hL, Lr1_1 hL, Lr1_2 hL, Lr1_3 hL, Lr1_4 hL, Lr1_5 hL, Lr1_6 hL, Lg1_7 hL, Lp1_7 hL, Lo9 hL, Lr9_0 hL, Lr9_1 hL, Lr9_2 hL, Lr9_3 hL, Lr9_4 hL, Lr9_5 hL, Lg9_6 hL, Lp9_6 hL, Lg9_7 hL, Lp9_7 hL, Lo16 hL, Lr16_0 hL, Lr16_1 hL, Lg16_2 hL, Lp16_2 hL, Lo19 hL, Lr19_0 hL, Lr19_1 hL, Lr19_2 hL, Lr19_3 hL, Lr19_4 hL, Lr19_5 hL, Lg19_6 hL, Lp19_6 hL, Lg19_7 hL, Lp19_7 hL, Lo26 hL, Lr26_0 hL, Lr26_1 hL, Lr26_2 hL, Lr26_3 hL, Lr26_4 hL, Lr26_5 hL, Lg26_6 hL, Lp26_6 hL, Lg26_7 hL, Lp26_7 hL, Lg26_8 hL, Lp26_8 hL, La2 hL, Ls2 hL, La3 hL, Ls3 hL, La4 hL, Ls4 hL, La5 hL, Ls5 hL, La6 hL, Ls6 hL, La7 hL, Ls7 hL, La8 hL, Ls8 hL, La10 hL, Ls10 hL, La11 hL, Ls11 hL, La12 hL, Ls12 hL, La13 hL, Ls13 hL, La14 hL, Ls14 hL, La15 hL, Ls15 hL, La17 hL, Ls17 hL, La18 hL, Ls18 hL, La20 hL, Ls20 hL, La21 hL, Ls21 hL, La22 hL, Ls22 hL, La23 hL, Ls23 hL, La24 hL, Ls24 hL, La25 hL, Ls25 hL, La27 hL, Ls27 hL, La28 hL, Ls28 hL, La29 hL, Ls29 hL, La30 hL, Ls30 hL, La31 hL, Ls31 hL, La32 hL, Ls32 hL, hF, c1, c2, if_false, if_true, hu, n1, d1, or_true, true_or, side]
    rw [taut, ite_some, ite_pr]
  · simp (disch := omega) only [zjpE, zletE, zciE, zcvE, zchkE, nI_1, Lo0 hL, Lr0_0 hL, Lr0_1 hL, Lr0_2 hL, Lr0_3 hL, Lr0_4 hL, Lg0_5 hL, Lp0_5 hL, Lg0_6 hL, Lp0_6 hL, Lg0_7 hL, Lp0_7 hL, Lg0_8 hL, Lp0_8 hL, Lo1 hL, Lr1_0 hL, Lr1_1 hL, Lr1_2 hL, Lr1_3 hL, Lr1_4 hL, Lr1_5 hL, Lr1_6 hL, Lg1_7 hL, Lp1_7 hL, Lo9 hL, Lr9_0 hL, Lr9_1 hL, Lr9_2 hL, Lr9_3 hL, Lr9_4 hL, Lr9_5 hL, Lg9_6 hL, Lp9_6 hL, Lg9_7 hL, Lp9_7 hL, Lo16 hL, Lr16_0 hL, Lr16_1 hL, Lg16_2 hL, Lp16_2 hL, Lo19 hL, Lr19_0 hL, Lr19_1 hL, Lr19_2 hL, Lr19_3 hL, Lr19_4 hL, Lr19_5 hL, Lg19_6 hL, Lp19_6 hL, Lg19_7 hL, Lp19_7 hL, Lo26 hL, Lr26_0 hL, Lr26_1 hL, Lr26_2 hL, Lr26_3 hL, Lr26_4 hL, Lr26_5 hL, Lg26_6 hL, Lp26_6 hL, Lg26_7 hL, Lp26_7 hL, Lg26_8 hL, Lp26_8 hL, La2 hL, Ls2 hL, La3 hL, Ls3 hL, La4 hL, Ls4 hL, La5 hL, Ls5 hL, La6 hL, Ls6 hL, La7 hL, Ls7 hL, La8 hL, Ls8 hL, La10 hL, Ls10 hL, La11 hL, Ls11 hL, La12 hL, Ls12 hL, La13 hL, Ls13 hL, La14 hL, Ls14 hL, La15 hL, Ls15 hL, La17 hL, Ls17 hL, La18 hL, Ls18 hL, La20 hL, Ls20 hL, La21 hL, Ls21 hL, La22 hL, Ls22 hL, La23 hL, Ls23 hL, La24 hL, Ls24 hL, La25 hL, Ls25 hL, La27 hL, Ls27 hL, La28 hL, Ls28 hL, La29 hL, Ls29 hL, La30 hL, Ls30 hL, La31 hL, Ls31 hL, La32 hL, Ls32 hL, hF, c1, c2, if_false, if_true, hu, n1, d1, or_true, true_or, side]
    rw [taut, ite_some, ite_pr]
theorem zciX {β : Type} {o : Option (Int32 × zD)} {v : Int32} {D : zD} (h : o = some (v, D)) {k : Int32 → zD → Option β} : zci o k = k v D := by rw [h, zciE]
theorem zcvX {β : Type} {o : Option zD} {D : zD} (h : o = some D) {k : zD → Option β} : zcv o k = k D := by rw [h, zcvE]
theorem e_hearEcho (hL : LF w a) {pr : Nat} (hp : pr < 16) : f_Ears_hearEcho w (zblk D a F) (a + 26) (nI pr) = some (zblk D a (EF F pr)) := by
  unfold f_Ears_hearEcho EF
  simp (disch := omega) only [↓zjpE, ↓zletE, ↓zciE, ↓zcvE, ↓zchkE, ↓reduceIte, zciE, zcvE, nI_1, ↓Lo0 hL, Lo0 hL, ↓Lr0_0 hL, Lr0_0 hL, ↓Lr0_1 hL, Lr0_1 hL, ↓Lr0_2 hL, Lr0_2 hL, ↓Lr0_3 hL, Lr0_3 hL, ↓Lr0_4 hL, Lr0_4 hL, ↓Lg0_5 hL, Lg0_5 hL, ↓Lp0_5 hL, Lp0_5 hL, ↓Lg0_6 hL, Lg0_6 hL, ↓Lp0_6 hL, Lp0_6 hL, ↓Lg0_7 hL, Lg0_7 hL, ↓Lp0_7 hL, Lp0_7 hL, ↓Lg0_8 hL, Lg0_8 hL, ↓Lp0_8 hL, Lp0_8 hL, ↓Lo1 hL, Lo1 hL, ↓Lr1_0 hL, Lr1_0 hL, ↓Lr1_1 hL, Lr1_1 hL, ↓Lr1_2 hL, Lr1_2 hL, ↓Lr1_3 hL, Lr1_3 hL, ↓Lr1_4 hL, Lr1_4 hL, ↓Lr1_5 hL, Lr1_5 hL, ↓Lr1_6 hL, Lr1_6 hL, ↓Lg1_7 hL, Lg1_7 hL, ↓Lp1_7 hL, Lp1_7 hL, ↓Lo9 hL, Lo9 hL, ↓Lr9_0 hL, Lr9_0 hL, ↓Lr9_1 hL, Lr9_1 hL, ↓Lr9_2 hL, Lr9_2 hL, ↓Lr9_3 hL, Lr9_3 hL, ↓Lr9_4 hL, Lr9_4 hL, ↓Lr9_5 hL, Lr9_5 hL, ↓Lg9_6 hL, Lg9_6 hL, ↓Lp9_6 hL, Lp9_6 hL, ↓Lg9_7 hL, Lg9_7 hL, ↓Lp9_7 hL, Lp9_7 hL, ↓Lo16 hL, Lo16 hL, ↓Lr16_0 hL, Lr16_0 hL, ↓Lr16_1 hL, Lr16_1 hL, ↓Lg16_2 hL, Lg16_2 hL, ↓Lp16_2 hL, Lp16_2 hL, ↓Lo19 hL, Lo19 hL, ↓Lr19_0 hL, Lr19_0 hL, ↓Lr19_1 hL, Lr19_1 hL, ↓Lr19_2 hL, Lr19_2 hL, ↓Lr19_3 hL, Lr19_3 hL, ↓Lr19_4 hL, Lr19_4 hL, ↓Lr19_5 hL, Lr19_5 hL, ↓Lg19_6 hL, Lg19_6 hL, ↓Lp19_6 hL, Lp19_6 hL, ↓Lg19_7 hL, Lg19_7 hL, ↓Lp19_7 hL, Lp19_7 hL, ↓Lo26 hL, Lo26 hL, ↓Lr26_0 hL, Lr26_0 hL, ↓Lr26_1 hL, Lr26_1 hL, ↓Lr26_2 hL, Lr26_2 hL, ↓Lr26_3 hL, Lr26_3 hL, ↓Lr26_4 hL, Lr26_4 hL, ↓Lr26_5 hL, Lr26_5 hL, ↓Lg26_6 hL, Lg26_6 hL, ↓Lp26_6 hL, Lp26_6 hL, ↓Lg26_7 hL, Lg26_7 hL, ↓Lp26_7 hL, Lp26_7 hL, ↓Lg26_8 hL, Lg26_8 hL, ↓Lp26_8 hL, Lp26_8 hL, ↓La2 hL, La2 hL, ↓Ls2 hL, Ls2 hL, ↓La3 hL, La3 hL, ↓Ls3 hL, Ls3 hL, ↓La4 hL, La4 hL, ↓Ls4 hL, Ls4 hL, ↓La5 hL, La5 hL, ↓Ls5 hL, Ls5 hL, ↓La6 hL, La6 hL, ↓Ls6 hL, Ls6 hL, ↓La7 hL, La7 hL, ↓Ls7 hL, Ls7 hL, ↓La8 hL, La8 hL, ↓Ls8 hL, Ls8 hL, ↓La10 hL, La10 hL, ↓Ls10 hL, Ls10 hL, ↓La11 hL, La11 hL, ↓Ls11 hL, Ls11 hL, ↓La12 hL, La12 hL, ↓Ls12 hL, Ls12 hL, ↓La13 hL, La13 hL, ↓Ls13 hL, Ls13 hL, ↓La14 hL, La14 hL, ↓Ls14 hL, Ls14 hL, ↓La15 hL, La15 hL, ↓Ls15 hL, Ls15 hL, ↓La17 hL, La17 hL, ↓Ls17 hL, Ls17 hL, ↓La18 hL, La18 hL, ↓Ls18 hL, Ls18 hL, ↓La20 hL, La20 hL, ↓Ls20 hL, Ls20 hL, ↓La21 hL, La21 hL, ↓Ls21 hL, Ls21 hL, ↓La22 hL, La22 hL, ↓Ls22 hL, Ls22 hL, ↓La23 hL, La23 hL, ↓Ls23 hL, Ls23 hL, ↓La24 hL, La24 hL, ↓Ls24 hL, Ls24 hL, ↓La25 hL, La25 hL, ↓Ls25 hL, Ls25 hL, ↓La27 hL, La27 hL, ↓Ls27 hL, Ls27 hL, ↓La28 hL, La28 hL, ↓Ls28 hL, Ls28 hL, ↓La29 hL, La29 hL, ↓Ls29 hL, Ls29 hL, ↓La30 hL, La30 hL, ↓Ls30 hL, Ls30 hL, ↓La31 hL, La31 hL, ↓Ls31 hL, Ls31 hL, ↓La32 hL, La32 hL, ↓Ls32 hL, Ls32 hL, upd2_o]
  rw [upd2_comm (by decide)]
theorem e_hearDirect (hL : LF w a) {pr : Nat} (hp : pr < 16) {gv tm : Int32} (h31 : F 30 pr = -1 → F 31 pr = -1) : f_Ears_hearDirect w (zblk D a F) (a + 26) (nI pr) gv tm = some (zblk D a (NF F pr gv tm)) := by
  have z0 : ∀ x : Int32, x + 0 = x := by intro x; grind
  have hmx : (if gv ≤ F 32 pr then F 32 pr else gv) = if F 32 pr ≤ gv then gv else F 32 pr := by
    by_cases h1 : gv ≤ F 32 pr <;> by_cases h2 : F 32 pr ≤ gv <;> simp [h1, h2] <;> grind
  unfold f_Ears_hearDirect NF
  rw [hmx]
  by_cases h1 : F 32 pr ≤ gv
  · by_cases h2 : F 30 pr = -1
    · simp (disch := omega) only [↓zjpE, ↓zletE, ↓zciE, ↓zcvE, ↓zchkE, ↓reduceIte, zciE, zcvE, nI_1, ↓Lo0 hL, Lo0 hL, ↓Lr0_0 hL, Lr0_0 hL, ↓Lr0_1 hL, Lr0_1 hL, ↓Lr0_2 hL, Lr0_2 hL, ↓Lr0_3 hL, Lr0_3 hL, ↓Lr0_4 hL, Lr0_4 hL, ↓Lg0_5 hL, Lg0_5 hL, ↓Lp0_5 hL, Lp0_5 hL, ↓Lg0_6 hL, Lg0_6 hL, ↓Lp0_6 hL, Lp0_6 hL, ↓Lg0_7 hL, Lg0_7 hL, ↓Lp0_7 hL, Lp0_7 hL, ↓Lg0_8 hL, Lg0_8 hL, ↓Lp0_8 hL, Lp0_8 hL, ↓Lo1 hL, Lo1 hL, ↓Lr1_0 hL, Lr1_0 hL, ↓Lr1_1 hL, Lr1_1 hL, ↓Lr1_2 hL, Lr1_2 hL, ↓Lr1_3 hL, Lr1_3 hL, ↓Lr1_4 hL, Lr1_4 hL, ↓Lr1_5 hL, Lr1_5 hL, ↓Lr1_6 hL, Lr1_6 hL, ↓Lg1_7 hL, Lg1_7 hL, ↓Lp1_7 hL, Lp1_7 hL, ↓Lo9 hL, Lo9 hL, ↓Lr9_0 hL, Lr9_0 hL, ↓Lr9_1 hL, Lr9_1 hL, ↓Lr9_2 hL, Lr9_2 hL, ↓Lr9_3 hL, Lr9_3 hL, ↓Lr9_4 hL, Lr9_4 hL, ↓Lr9_5 hL, Lr9_5 hL, ↓Lg9_6 hL, Lg9_6 hL, ↓Lp9_6 hL, Lp9_6 hL, ↓Lg9_7 hL, Lg9_7 hL, ↓Lp9_7 hL, Lp9_7 hL, ↓Lo16 hL, Lo16 hL, ↓Lr16_0 hL, Lr16_0 hL, ↓Lr16_1 hL, Lr16_1 hL, ↓Lg16_2 hL, Lg16_2 hL, ↓Lp16_2 hL, Lp16_2 hL, ↓Lo19 hL, Lo19 hL, ↓Lr19_0 hL, Lr19_0 hL, ↓Lr19_1 hL, Lr19_1 hL, ↓Lr19_2 hL, Lr19_2 hL, ↓Lr19_3 hL, Lr19_3 hL, ↓Lr19_4 hL, Lr19_4 hL, ↓Lr19_5 hL, Lr19_5 hL, ↓Lg19_6 hL, Lg19_6 hL, ↓Lp19_6 hL, Lp19_6 hL, ↓Lg19_7 hL, Lg19_7 hL, ↓Lp19_7 hL, Lp19_7 hL, ↓Lo26 hL, Lo26 hL, ↓Lr26_0 hL, Lr26_0 hL, ↓Lr26_1 hL, Lr26_1 hL, ↓Lr26_2 hL, Lr26_2 hL, ↓Lr26_3 hL, Lr26_3 hL, ↓Lr26_4 hL, Lr26_4 hL, ↓Lr26_5 hL, Lr26_5 hL, ↓Lg26_6 hL, Lg26_6 hL, ↓Lp26_6 hL, Lp26_6 hL, ↓Lg26_7 hL, Lg26_7 hL, ↓Lp26_7 hL, Lp26_7 hL, ↓Lg26_8 hL, Lg26_8 hL, ↓Lp26_8 hL, Lp26_8 hL, ↓La2 hL, La2 hL, ↓Ls2 hL, Ls2 hL, ↓La3 hL, La3 hL, ↓Ls3 hL, Ls3 hL, ↓La4 hL, La4 hL, ↓Ls4 hL, Ls4 hL, ↓La5 hL, La5 hL, ↓Ls5 hL, Ls5 hL, ↓La6 hL, La6 hL, ↓Ls6 hL, Ls6 hL, ↓La7 hL, La7 hL, ↓Ls7 hL, Ls7 hL, ↓La8 hL, La8 hL, ↓Ls8 hL, Ls8 hL, ↓La10 hL, La10 hL, ↓Ls10 hL, Ls10 hL, ↓La11 hL, La11 hL, ↓Ls11 hL, Ls11 hL, ↓La12 hL, La12 hL, ↓Ls12 hL, Ls12 hL, ↓La13 hL, La13 hL, ↓Ls13 hL, Ls13 hL, ↓La14 hL, La14 hL, ↓Ls14 hL, Ls14 hL, ↓La15 hL, La15 hL, ↓Ls15 hL, Ls15 hL, ↓La17 hL, La17 hL, ↓Ls17 hL, Ls17 hL, ↓La18 hL, La18 hL, ↓Ls18 hL, Ls18 hL, ↓La20 hL, La20 hL, ↓Ls20 hL, Ls20 hL, ↓La21 hL, La21 hL, ↓Ls21 hL, Ls21 hL, ↓La22 hL, La22 hL, ↓Ls22 hL, Ls22 hL, ↓La23 hL, La23 hL, ↓Ls23 hL, Ls23 hL, ↓La24 hL, La24 hL, ↓Ls24 hL, Ls24 hL, ↓La25 hL, La25 hL, ↓Ls25 hL, Ls25 hL, ↓La27 hL, La27 hL, ↓Ls27 hL, Ls27 hL, ↓La28 hL, La28 hL, ↓Ls28 hL, Ls28 hL, ↓La29 hL, La29 hL, ↓Ls29 hL, Ls29 hL, ↓La30 hL, La30 hL, ↓Ls30 hL, Ls30 hL, ↓La31 hL, La31 hL, ↓Ls31 hL, Ls31 hL, ↓La32 hL, La32 hL, ↓Ls32 hL, Ls32 hL, h1, h2, upd2_o, z0]
      congr 2
      funext q j
      unfold upd2
      have := h31 h2
      grind
    · simp (disch := omega) only [↓zjpE, ↓zletE, ↓zciE, ↓zcvE, ↓zchkE, ↓reduceIte, zciE, zcvE, nI_1, ↓Lo0 hL, Lo0 hL, ↓Lr0_0 hL, Lr0_0 hL, ↓Lr0_1 hL, Lr0_1 hL, ↓Lr0_2 hL, Lr0_2 hL, ↓Lr0_3 hL, Lr0_3 hL, ↓Lr0_4 hL, Lr0_4 hL, ↓Lg0_5 hL, Lg0_5 hL, ↓Lp0_5 hL, Lp0_5 hL, ↓Lg0_6 hL, Lg0_6 hL, ↓Lp0_6 hL, Lp0_6 hL, ↓Lg0_7 hL, Lg0_7 hL, ↓Lp0_7 hL, Lp0_7 hL, ↓Lg0_8 hL, Lg0_8 hL, ↓Lp0_8 hL, Lp0_8 hL, ↓Lo1 hL, Lo1 hL, ↓Lr1_0 hL, Lr1_0 hL, ↓Lr1_1 hL, Lr1_1 hL, ↓Lr1_2 hL, Lr1_2 hL, ↓Lr1_3 hL, Lr1_3 hL, ↓Lr1_4 hL, Lr1_4 hL, ↓Lr1_5 hL, Lr1_5 hL, ↓Lr1_6 hL, Lr1_6 hL, ↓Lg1_7 hL, Lg1_7 hL, ↓Lp1_7 hL, Lp1_7 hL, ↓Lo9 hL, Lo9 hL, ↓Lr9_0 hL, Lr9_0 hL, ↓Lr9_1 hL, Lr9_1 hL, ↓Lr9_2 hL, Lr9_2 hL, ↓Lr9_3 hL, Lr9_3 hL, ↓Lr9_4 hL, Lr9_4 hL, ↓Lr9_5 hL, Lr9_5 hL, ↓Lg9_6 hL, Lg9_6 hL, ↓Lp9_6 hL, Lp9_6 hL, ↓Lg9_7 hL, Lg9_7 hL, ↓Lp9_7 hL, Lp9_7 hL, ↓Lo16 hL, Lo16 hL, ↓Lr16_0 hL, Lr16_0 hL, ↓Lr16_1 hL, Lr16_1 hL, ↓Lg16_2 hL, Lg16_2 hL, ↓Lp16_2 hL, Lp16_2 hL, ↓Lo19 hL, Lo19 hL, ↓Lr19_0 hL, Lr19_0 hL, ↓Lr19_1 hL, Lr19_1 hL, ↓Lr19_2 hL, Lr19_2 hL, ↓Lr19_3 hL, Lr19_3 hL, ↓Lr19_4 hL, Lr19_4 hL, ↓Lr19_5 hL, Lr19_5 hL, ↓Lg19_6 hL, Lg19_6 hL, ↓Lp19_6 hL, Lp19_6 hL, ↓Lg19_7 hL, Lg19_7 hL, ↓Lp19_7 hL, Lp19_7 hL, ↓Lo26 hL, Lo26 hL, ↓Lr26_0 hL, Lr26_0 hL, ↓Lr26_1 hL, Lr26_1 hL, ↓Lr26_2 hL, Lr26_2 hL, ↓Lr26_3 hL, Lr26_3 hL, ↓Lr26_4 hL, Lr26_4 hL, ↓Lr26_5 hL, Lr26_5 hL, ↓Lg26_6 hL, Lg26_6 hL, ↓Lp26_6 hL, Lp26_6 hL, ↓Lg26_7 hL, Lg26_7 hL, ↓Lp26_7 hL, Lp26_7 hL, ↓Lg26_8 hL, Lg26_8 hL, ↓Lp26_8 hL, Lp26_8 hL, ↓La2 hL, La2 hL, ↓Ls2 hL, Ls2 hL, ↓La3 hL, La3 hL, ↓Ls3 hL, Ls3 hL, ↓La4 hL, La4 hL, ↓Ls4 hL, Ls4 hL, ↓La5 hL, La5 hL, ↓Ls5 hL, Ls5 hL, ↓La6 hL, La6 hL, ↓Ls6 hL, Ls6 hL, ↓La7 hL, La7 hL, ↓Ls7 hL, Ls7 hL, ↓La8 hL, La8 hL, ↓Ls8 hL, Ls8 hL, ↓La10 hL, La10 hL, ↓Ls10 hL, Ls10 hL, ↓La11 hL, La11 hL, ↓Ls11 hL, Ls11 hL, ↓La12 hL, La12 hL, ↓Ls12 hL, Ls12 hL, ↓La13 hL, La13 hL, ↓Ls13 hL, Ls13 hL, ↓La14 hL, La14 hL, ↓Ls14 hL, Ls14 hL, ↓La15 hL, La15 hL, ↓Ls15 hL, Ls15 hL, ↓La17 hL, La17 hL, ↓Ls17 hL, Ls17 hL, ↓La18 hL, La18 hL, ↓Ls18 hL, Ls18 hL, ↓La20 hL, La20 hL, ↓Ls20 hL, Ls20 hL, ↓La21 hL, La21 hL, ↓Ls21 hL, Ls21 hL, ↓La22 hL, La22 hL, ↓Ls22 hL, Ls22 hL, ↓La23 hL, La23 hL, ↓Ls23 hL, Ls23 hL, ↓La24 hL, La24 hL, ↓Ls24 hL, Ls24 hL, ↓La25 hL, La25 hL, ↓Ls25 hL, Ls25 hL, ↓La27 hL, La27 hL, ↓Ls27 hL, Ls27 hL, ↓La28 hL, La28 hL, ↓Ls28 hL, Ls28 hL, ↓La29 hL, La29 hL, ↓Ls29 hL, Ls29 hL, ↓La30 hL, La30 hL, ↓Ls30 hL, Ls30 hL, ↓La31 hL, La31 hL, ↓Ls31 hL, Ls31 hL, ↓La32 hL, La32 hL, ↓Ls32 hL, Ls32 hL, h1, h2, upd2_o, z0]
      congr 2
      funext q j
      unfold upd2
      grind
  · by_cases h2 : F 30 pr = -1
    · simp (disch := omega) only [↓zjpE, ↓zletE, ↓zciE, ↓zcvE, ↓zchkE, ↓reduceIte, zciE, zcvE, nI_1, ↓Lo0 hL, Lo0 hL, ↓Lr0_0 hL, Lr0_0 hL, ↓Lr0_1 hL, Lr0_1 hL, ↓Lr0_2 hL, Lr0_2 hL, ↓Lr0_3 hL, Lr0_3 hL, ↓Lr0_4 hL, Lr0_4 hL, ↓Lg0_5 hL, Lg0_5 hL, ↓Lp0_5 hL, Lp0_5 hL, ↓Lg0_6 hL, Lg0_6 hL, ↓Lp0_6 hL, Lp0_6 hL, ↓Lg0_7 hL, Lg0_7 hL, ↓Lp0_7 hL, Lp0_7 hL, ↓Lg0_8 hL, Lg0_8 hL, ↓Lp0_8 hL, Lp0_8 hL, ↓Lo1 hL, Lo1 hL, ↓Lr1_0 hL, Lr1_0 hL, ↓Lr1_1 hL, Lr1_1 hL, ↓Lr1_2 hL, Lr1_2 hL, ↓Lr1_3 hL, Lr1_3 hL, ↓Lr1_4 hL, Lr1_4 hL, ↓Lr1_5 hL, Lr1_5 hL, ↓Lr1_6 hL, Lr1_6 hL, ↓Lg1_7 hL, Lg1_7 hL, ↓Lp1_7 hL, Lp1_7 hL, ↓Lo9 hL, Lo9 hL, ↓Lr9_0 hL, Lr9_0 hL, ↓Lr9_1 hL, Lr9_1 hL, ↓Lr9_2 hL, Lr9_2 hL, ↓Lr9_3 hL, Lr9_3 hL, ↓Lr9_4 hL, Lr9_4 hL, ↓Lr9_5 hL, Lr9_5 hL, ↓Lg9_6 hL, Lg9_6 hL, ↓Lp9_6 hL, Lp9_6 hL, ↓Lg9_7 hL, Lg9_7 hL, ↓Lp9_7 hL, Lp9_7 hL, ↓Lo16 hL, Lo16 hL, ↓Lr16_0 hL, Lr16_0 hL, ↓Lr16_1 hL, Lr16_1 hL, ↓Lg16_2 hL, Lg16_2 hL, ↓Lp16_2 hL, Lp16_2 hL, ↓Lo19 hL, Lo19 hL, ↓Lr19_0 hL, Lr19_0 hL, ↓Lr19_1 hL, Lr19_1 hL, ↓Lr19_2 hL, Lr19_2 hL, ↓Lr19_3 hL, Lr19_3 hL, ↓Lr19_4 hL, Lr19_4 hL, ↓Lr19_5 hL, Lr19_5 hL, ↓Lg19_6 hL, Lg19_6 hL, ↓Lp19_6 hL, Lp19_6 hL, ↓Lg19_7 hL, Lg19_7 hL, ↓Lp19_7 hL, Lp19_7 hL, ↓Lo26 hL, Lo26 hL, ↓Lr26_0 hL, Lr26_0 hL, ↓Lr26_1 hL, Lr26_1 hL, ↓Lr26_2 hL, Lr26_2 hL, ↓Lr26_3 hL, Lr26_3 hL, ↓Lr26_4 hL, Lr26_4 hL, ↓Lr26_5 hL, Lr26_5 hL, ↓Lg26_6 hL, Lg26_6 hL, ↓Lp26_6 hL, Lp26_6 hL, ↓Lg26_7 hL, Lg26_7 hL, ↓Lp26_7 hL, Lp26_7 hL, ↓Lg26_8 hL, Lg26_8 hL, ↓Lp26_8 hL, Lp26_8 hL, ↓La2 hL, La2 hL, ↓Ls2 hL, Ls2 hL, ↓La3 hL, La3 hL, ↓Ls3 hL, Ls3 hL, ↓La4 hL, La4 hL, ↓Ls4 hL, Ls4 hL, ↓La5 hL, La5 hL, ↓Ls5 hL, Ls5 hL, ↓La6 hL, La6 hL, ↓Ls6 hL, Ls6 hL, ↓La7 hL, La7 hL, ↓Ls7 hL, Ls7 hL, ↓La8 hL, La8 hL, ↓Ls8 hL, Ls8 hL, ↓La10 hL, La10 hL, ↓Ls10 hL, Ls10 hL, ↓La11 hL, La11 hL, ↓Ls11 hL, Ls11 hL, ↓La12 hL, La12 hL, ↓Ls12 hL, Ls12 hL, ↓La13 hL, La13 hL, ↓Ls13 hL, Ls13 hL, ↓La14 hL, La14 hL, ↓Ls14 hL, Ls14 hL, ↓La15 hL, La15 hL, ↓Ls15 hL, Ls15 hL, ↓La17 hL, La17 hL, ↓Ls17 hL, Ls17 hL, ↓La18 hL, La18 hL, ↓Ls18 hL, Ls18 hL, ↓La20 hL, La20 hL, ↓Ls20 hL, Ls20 hL, ↓La21 hL, La21 hL, ↓Ls21 hL, Ls21 hL, ↓La22 hL, La22 hL, ↓Ls22 hL, Ls22 hL, ↓La23 hL, La23 hL, ↓Ls23 hL, Ls23 hL, ↓La24 hL, La24 hL, ↓Ls24 hL, Ls24 hL, ↓La25 hL, La25 hL, ↓Ls25 hL, Ls25 hL, ↓La27 hL, La27 hL, ↓Ls27 hL, Ls27 hL, ↓La28 hL, La28 hL, ↓Ls28 hL, Ls28 hL, ↓La29 hL, La29 hL, ↓Ls29 hL, Ls29 hL, ↓La30 hL, La30 hL, ↓Ls30 hL, Ls30 hL, ↓La31 hL, La31 hL, ↓Ls31 hL, Ls31 hL, ↓La32 hL, La32 hL, ↓Ls32 hL, Ls32 hL, h1, h2, upd2_o, upd2_i, z0]
      congr 2
      funext q j
      unfold upd2
      have := h31 h2
      grind
    · simp (disch := omega) only [↓zjpE, ↓zletE, ↓zciE, ↓zcvE, ↓zchkE, ↓reduceIte, zciE, zcvE, nI_1, ↓Lo0 hL, Lo0 hL, ↓Lr0_0 hL, Lr0_0 hL, ↓Lr0_1 hL, Lr0_1 hL, ↓Lr0_2 hL, Lr0_2 hL, ↓Lr0_3 hL, Lr0_3 hL, ↓Lr0_4 hL, Lr0_4 hL, ↓Lg0_5 hL, Lg0_5 hL, ↓Lp0_5 hL, Lp0_5 hL, ↓Lg0_6 hL, Lg0_6 hL, ↓Lp0_6 hL, Lp0_6 hL, ↓Lg0_7 hL, Lg0_7 hL, ↓Lp0_7 hL, Lp0_7 hL, ↓Lg0_8 hL, Lg0_8 hL, ↓Lp0_8 hL, Lp0_8 hL, ↓Lo1 hL, Lo1 hL, ↓Lr1_0 hL, Lr1_0 hL, ↓Lr1_1 hL, Lr1_1 hL, ↓Lr1_2 hL, Lr1_2 hL, ↓Lr1_3 hL, Lr1_3 hL, ↓Lr1_4 hL, Lr1_4 hL, ↓Lr1_5 hL, Lr1_5 hL, ↓Lr1_6 hL, Lr1_6 hL, ↓Lg1_7 hL, Lg1_7 hL, ↓Lp1_7 hL, Lp1_7 hL, ↓Lo9 hL, Lo9 hL, ↓Lr9_0 hL, Lr9_0 hL, ↓Lr9_1 hL, Lr9_1 hL, ↓Lr9_2 hL, Lr9_2 hL, ↓Lr9_3 hL, Lr9_3 hL, ↓Lr9_4 hL, Lr9_4 hL, ↓Lr9_5 hL, Lr9_5 hL, ↓Lg9_6 hL, Lg9_6 hL, ↓Lp9_6 hL, Lp9_6 hL, ↓Lg9_7 hL, Lg9_7 hL, ↓Lp9_7 hL, Lp9_7 hL, ↓Lo16 hL, Lo16 hL, ↓Lr16_0 hL, Lr16_0 hL, ↓Lr16_1 hL, Lr16_1 hL, ↓Lg16_2 hL, Lg16_2 hL, ↓Lp16_2 hL, Lp16_2 hL, ↓Lo19 hL, Lo19 hL, ↓Lr19_0 hL, Lr19_0 hL, ↓Lr19_1 hL, Lr19_1 hL, ↓Lr19_2 hL, Lr19_2 hL, ↓Lr19_3 hL, Lr19_3 hL, ↓Lr19_4 hL, Lr19_4 hL, ↓Lr19_5 hL, Lr19_5 hL, ↓Lg19_6 hL, Lg19_6 hL, ↓Lp19_6 hL, Lp19_6 hL, ↓Lg19_7 hL, Lg19_7 hL, ↓Lp19_7 hL, Lp19_7 hL, ↓Lo26 hL, Lo26 hL, ↓Lr26_0 hL, Lr26_0 hL, ↓Lr26_1 hL, Lr26_1 hL, ↓Lr26_2 hL, Lr26_2 hL, ↓Lr26_3 hL, Lr26_3 hL, ↓Lr26_4 hL, Lr26_4 hL, ↓Lr26_5 hL, Lr26_5 hL, ↓Lg26_6 hL, Lg26_6 hL, ↓Lp26_6 hL, Lp26_6 hL, ↓Lg26_7 hL, Lg26_7 hL, ↓Lp26_7 hL, Lp26_7 hL, ↓Lg26_8 hL, Lg26_8 hL, ↓Lp26_8 hL, Lp26_8 hL, ↓La2 hL, La2 hL, ↓Ls2 hL, Ls2 hL, ↓La3 hL, La3 hL, ↓Ls3 hL, Ls3 hL, ↓La4 hL, La4 hL, ↓Ls4 hL, Ls4 hL, ↓La5 hL, La5 hL, ↓Ls5 hL, Ls5 hL, ↓La6 hL, La6 hL, ↓Ls6 hL, Ls6 hL, ↓La7 hL, La7 hL, ↓Ls7 hL, Ls7 hL, ↓La8 hL, La8 hL, ↓Ls8 hL, Ls8 hL, ↓La10 hL, La10 hL, ↓Ls10 hL, Ls10 hL, ↓La11 hL, La11 hL, ↓Ls11 hL, Ls11 hL, ↓La12 hL, La12 hL, ↓Ls12 hL, Ls12 hL, ↓La13 hL, La13 hL, ↓Ls13 hL, Ls13 hL, ↓La14 hL, La14 hL, ↓Ls14 hL, Ls14 hL, ↓La15 hL, La15 hL, ↓Ls15 hL, Ls15 hL, ↓La17 hL, La17 hL, ↓Ls17 hL, Ls17 hL, ↓La18 hL, La18 hL, ↓Ls18 hL, Ls18 hL, ↓La20 hL, La20 hL, ↓Ls20 hL, Ls20 hL, ↓La21 hL, La21 hL, ↓Ls21 hL, Ls21 hL, ↓La22 hL, La22 hL, ↓Ls22 hL, Ls22 hL, ↓La23 hL, La23 hL, ↓Ls23 hL, Ls23 hL, ↓La24 hL, La24 hL, ↓Ls24 hL, Ls24 hL, ↓La25 hL, La25 hL, ↓Ls25 hL, Ls25 hL, ↓La27 hL, La27 hL, ↓Ls27 hL, Ls27 hL, ↓La28 hL, La28 hL, ↓Ls28 hL, Ls28 hL, ↓La29 hL, La29 hL, ↓Ls29 hL, Ls29 hL, ↓La30 hL, La30 hL, ↓Ls30 hL, Ls30 hL, ↓La31 hL, La31 hL, ↓Ls31 hL, Ls31 hL, ↓La32 hL, La32 hL, ↓Ls32 hL, Ls32 hL, h1, h2, upd2_o, upd2_i, z0]
      congr 2
      funext q j
      unfold upd2
      grind
end P42
abbrev gone (G : Nat → Nat → Int32) (nh i : Nat) : Prop := (0 < nh ∧ G 25 i = (1 <<< (nI nh &&& 31)) - 1) ∨ ¬ (G 0 5 - G 23 i < G 0 8)
def keep (G : Nat → Nat → Int32) (nh : Nat) : Nat → List Nat
  | 0 => []
  | k + 1 => if gone G nh k then keep G nh k else keep G nh k ++ [k]
theorem keep_len {G : Nat → Nat → Int32} {nh k : Nat} : (keep G nh k).length ≤ k := by
  induction k with
  | zero => exact Nat.le_refl _
  | succ k ih =>
    unfold keep
    split
    · omega
    · rw [List.length_append]; simp only [List.length_cons, List.length_nil]; omega
theorem keep_lt {G : Nat → Nat → Int32} {nh k : Nat} : ∀ i ∈ keep G nh k, i < k := by
  induction k with
  | zero => intro i hi; cases hi
  | succ k ih =>
    intro i hi
    unfold keep at hi
    split at hi
    · have := ih i hi; omega
    · rcases List.mem_append.1 hi with h | h
      · have := ih i h; omega
      · rw [List.mem_singleton] at h; omega
theorem keep_congr {G G' : Nat → Nat → Int32} {nh k : Nat} (h : ∀ i, i < k → (gone G' nh i ↔ gone G nh i)) : keep G' nh k = keep G nh k := by
  induction k with
  | zero => rfl
  | succ k ih =>
    unfold keep
    rw [ih (fun i hi => h i (by omega))]
    by_cases hg : gone G nh k
    · rw [if_pos hg, if_pos ((h k (by omega)).2 hg)]
    · rw [if_neg hg, if_neg (fun hx => hg ((h k (by omega)).1 hx))]
theorem keep_at {G : Nat → Nat → Int32} {nh k m i : Nat} (h : (keep G nh k)[m]? = some i) : m < k ∧ i < k := by
  have h1 := keep_lt i (List.mem_of_getElem? h)
  have h2 := keep_len (G := G) (nh := nh) (k := k)
  have h3 : m < (keep G nh k).length := by
    rcases Nat.lt_or_ge m (keep G nh k).length with h4 | h4
    · exact h4
    · rw [List.getElem?_eq_none h4] at h; cases h
  exact ⟨by omega, h1⟩
def msk (G : Nat → Nat → Int32) (t h : Nat) : Nat := (if G 30 (4 * h) = nI t then 1 else 0) + (if G 30 (4 * h + 1) = nI t then 2 else 0) + (if G 30 (4 * h + 2) = nI t then 4 else 0) + (if G 30 (4 * h + 3) = nI t then 8 else 0)
def RS (F G : Nat → Nat → Int32) (t nh ns : Nat) : Prop := (∀ h, h < 4 → F 15 h = nI (msk G t h) ∧ (nh ≤ h → F 15 h = 0)) ∧ ∀ h s, h < 4 → ns ≤ s → s < 4 → ¬ G 30 (4 * h + s) = nI t
def Ist (G : Nat → Nat → Int32) (ns nh nw t tp : Nat) (A : Prop) (np : Nat) : Prop := I0 G ns nh nw t ∧ IS G ns ∧ IH G nh ∧ IW G nw ∧ IC G ∧ IP G ns nw tp np ∧ IA G ns A
def RH (F G : Nat → Nat → Int32) (ns nh nw t tp : Nat) (A : Prop) (np d e l c p k : Nat) : Prop := R1 F G ∧ (F 19 6 = nI p ∧ p < 60 ∧ F 19 7 = nI np ∧ G 19 7 = nI np ∧ np ≤ 60) ∧ (∀ f j, f < 6 → k ≤ j → j < np → F (20 + f) ((p + j) % 60) = G (20 + f) j) ∧ (∀ f m i, f < 6 → (keep G nh k)[m]? = some i → F (20 + f) ((p + m) % 60) = G (20 + f) i) ∧ RS F G t nh ns ∧ F 9 7 = bsum G nh ∧ Ist G ns nh nw t tp A np ∧ IE G t ∧ IK G d e l c
theorem bsum_congr {G G' : Nat → Nat → Int32} {n : Nat} (h : G' 14 = G 14) : bsum G' n = bsum G n := by
  induction n with
  | zero => rfl
  | succ n ih => unfold bsum; rw [ih, h]
theorem nI_ne_m1 {n : Nat} (h : n < 2 ^ 31) : ¬ nI n = -1 := by
  intro hx
  have := nI_toInt h
  rw [hx] at this
  have h2 : (-1 : Int32).toInt = -1 := by decide
  omega
theorem Ist_congr {G G' : Nat → Nat → Int32} {ns nh nw t tp np : Nat} {A : Prop} (h : Ist G ns nh nw t tp A np) (hG : ∀ o, o ≤ 24 → o ≠ 19 → o ≠ 14 → G' o = G o) : Ist G' ns nh nw t tp A np := by
  unfold Ist I0 IS IH IW IC IP IA at h ⊢
  simp (disch := omega) only [hG]
  exact h
section P44
variable {A : Prop} {w : zW} {a b ns nh nw t te tp np d e l c p k d' e' l' c' B : Nat} {D : zD} {F G F' G' : Nat → Nat → Int32}
theorem RH_0 (h : RI F G ns nh nw t te tp A np d e l c) (ht : te < t) : ∃ p, RH F G ns nh nw t tp A np d e l c p 0 := by
  obtain ⟨h1, ⟨p, q1, q2, q3, q4, q5, q6⟩, hz, hB, i0, hS, hH, hW, hC, hP, hE, hK, hA⟩ := h
  have ht4 : t < 4000000 := i0.2.2.2.2.2.2.2
  have hne : ∀ i, i < 16 → ¬ G 30 i = nI t := by
    intro i hi hx
    rcases hE i hi with h | ⟨u, hu, h⟩
    · rw [h.1] at hx; exact nI_ne_m1 (by omega) hx.symm
    · rw [h, nI_eq (by omega) (by omega)] at hx; omega
  refine ⟨p, h1, ⟨q1, q2, q3, q4, q5⟩, fun f j hf _ hj => q6 f j hf hj, ?_, ?_, hB, ⟨i0, hS, hH, hW, hC, hP, hA⟩, ?_, hK⟩
  · intro f m i _ hm; unfold keep at hm; simp at hm
  · refine ⟨?_, fun h s hh _ hs => hne _ (by omega)⟩
    intro h hh
    refine ⟨?_, fun _ => hz h hh⟩
    unfold msk
    rw [hz h hh, if_neg (hne _ (by omega)), if_neg (hne _ (by omega)), if_neg (hne _ (by omega)), if_neg (hne _ (by omega))]; rfl
  · intro i hi
    rcases hE i hi with h | ⟨u, hu, h⟩
    · exact Or.inl h
    · exact Or.inr ⟨u, by omega, h⟩
theorem RH_upd (h : RH F G ns nh nw t tp A np d e l c p k) (hk : k < np) (r1 : R1 F' G') (hF : ∀ o, (o ≤ 14 ∨ o = 19 ∨ (20 ≤ o ∧ o < 25)) → F' o = F o) (hG : ∀ o, o ≤ 24 → G' o = G o) (h25F : ∀ r, r ≠ (p + k) % 60 → F' 25 r = F 25 r) (h25G : ∀ i, i ≠ k → G' 25 i = G 25 i) (h25 : F' 25 ((p + k) % 60) = G' 25 k) (hS : RS F' G' t nh ns) (hE : IE G' t) (hK : IK G' d' e' l' c') : RH F' G' ns nh nw t tp A np d' e' l' c' p k := by
  obtain ⟨-, ⟨q1, q2, q3, q4, q5⟩, a1, a2, -, aB, aI, -, -⟩ := h
  have hkeep : keep G' nh k = keep G nh k := by
    apply keep_congr
    intro i hi
    unfold gone
    rw [h25G i (by omega), hG 0 (by omega), hG 23 (by omega)]
  refine ⟨r1, ⟨by rw [hF 19 (by omega)]; exact q1, q2, by rw [hF 19 (by omega)]; exact q3, by rw [hG 19 (by omega)]; exact q4, q5⟩, ?_, ?_, hS, ?_, Ist_congr aI (fun o ho _ _ => hG o ho), hE, hK⟩
  · intro f j hf hj hjn
    by_cases h5 : f = 5
    · subst h5
      show F' 25 _ = G' 25 _
      by_cases hjk : j = k
      · subst hjk; exact h25
      · rw [h25F _ (by omega), h25G _ hjk]; exact a1 5 j hf hj hjn
    · rw [hF (20 + f) (by omega), hG (20 + f) (by omega)]; exact a1 f j hf hj hjn
  · intro f m i hf hm
    rw [hkeep] at hm
    obtain ⟨m1, m2⟩ := keep_at hm
    by_cases h5 : f = 5
    · subst h5
      show F' 25 _ = G' 25 _
      rw [h25F _ (by omega), h25G _ (by omega)]; exact a2 5 m i hf hm
    · rw [hF (20 + f) (by omega), hG (20 + f) (by omega)]; exact a2 f m i hf hm
  · rw [hF 9 (by omega), bsum_congr (hG 14 (by omega))]; exact aB
theorem RS_upd0 (h : ∀ h, h < 4 → F 15 h = nI (msk G t h)) {q s : Nat} (hq : q < 4) (hs : s < 4) (h1 : F' 15 q = F 15 q ||| (1 <<< (nI s &&& 31))) (h2 : ∀ i, i ≠ q → F' 15 i = F 15 i) (h3 : G' 30 (4 * q + s) = nI t) (h4 : ∀ i, i ≠ 4 * q + s → G' 30 i = G 30 i) : ∀ h, h < 4 → F' 15 h = nI (msk G' t h) := by
  intro r hr
  by_cases hrq : r = q
  · subst hrq
    rw [h1, h r hr]
    unfold msk
    have hs4 : s = 0 ∨ s = 1 ∨ s = 2 ∨ s = 3 := by omega
    rcases hs4 with rfl | rfl | rfl | rfl
    · rw [Nat.add_zero] at h3
      rw [if_pos h3, h4 (4 * r + 1) (by omega), h4 (4 * r + 2) (by omega), h4 (4 * r + 3) (by omega)]
      by_cases c0 : G 30 (4 * r) = nI t <;> by_cases c1 : G 30 (4 * r + 1) = nI t <;> by_cases c2 : G 30 (4 * r + 2) = nI t <;> by_cases c3 : G 30 (4 * r + 3) = nI t <;> simp only [c0, c1, c2, c3, if_true, if_false] <;> decide
    · rw [if_pos h3, h4 (4 * r) (by omega), h4 (4 * r + 2) (by omega), h4 (4 * r + 3) (by omega)]
      by_cases c0 : G 30 (4 * r) = nI t <;> by_cases c1 : G 30 (4 * r + 1) = nI t <;> by_cases c2 : G 30 (4 * r + 2) = nI t <;> by_cases c3 : G 30 (4 * r + 3) = nI t <;> simp only [c0, c1, c2, c3, if_true, if_false] <;> decide
    · rw [if_pos h3, h4 (4 * r) (by omega), h4 (4 * r + 1) (by omega), h4 (4 * r + 3) (by omega)]
      by_cases c0 : G 30 (4 * r) = nI t <;> by_cases c1 : G 30 (4 * r + 1) = nI t <;> by_cases c2 : G 30 (4 * r + 2) = nI t <;> by_cases c3 : G 30 (4 * r + 3) = nI t <;> simp only [c0, c1, c2, c3, if_true, if_false] <;> decide
    · rw [if_pos h3, h4 (4 * r) (by omega), h4 (4 * r + 1) (by omega), h4 (4 * r + 2) (by omega)]
      by_cases c0 : G 30 (4 * r) = nI t <;> by_cases c1 : G 30 (4 * r + 1) = nI t <;> by_cases c2 : G 30 (4 * r + 2) = nI t <;> by_cases c3 : G 30 (4 * r + 3) = nI t <;> simp only [c0, c1, c2, c3, if_true, if_false] <;> decide
  · rw [h2 r hrq, h r hr]
    unfold msk
    rw [h4 (4 * r) (by omega), h4 (4 * r + 1) (by omega), h4 (4 * r + 2) (by omega), h4 (4 * r + 3) (by omega)]
theorem RS_upd (h : RS F G t nh ns) {q s : Nat} (hq : q < 4) (hqn : q < nh) (hsn : s < ns) (hs : s < 4) (h1 : F' 15 q = F 15 q ||| (1 <<< (nI s &&& 31))) (h2 : ∀ i, i ≠ q → F' 15 i = F 15 i) (h3 : G' 30 (4 * q + s) = nI t) (h4 : ∀ i, i ≠ 4 * q + s → G' 30 i = G 30 i) : RS F' G' t nh ns := by
  have h0 := RS_upd0 (fun r hr => (h.1 r hr).1) hq hs h1 h2 h3 h4
  refine ⟨fun r hr => ⟨h0 r hr, fun hn => ?_⟩, ?_⟩
  · rw [h2 r (by omega)]; exact (h.1 r hr).2 hn
  · intro r i hr hi hi4
    rw [h4 (4 * r + i) (by omega)]; exact h.2 r i hr hi hi4
theorem RH_D (h : RH F G ns nh nw t tp A np d e l c p k) (hk : k < np) {q s : Nat} (hq : q < nh) (hs : s < ns) : RH (upd2 (NF (upd2 F 25 ((p + k) % 60) (F 25 ((p + k) % 60) ||| (1 <<< (nI q &&& 31)))) (4 * q + s) (G 23 k) (G 0 5)) 15 q (F 15 q ||| (1 <<< (nI s &&& 31)))) (NF (upd2 G 25 k (G 25 k ||| (1 <<< (nI q &&& 31)))) (4 * q + s) (G 23 k) (G 0 5)) ns nh nw t tp A np (d + 1) e (l + (if G 32 (4 * q + s) ≤ G 23 k then 0 else 1)) (c + 1) p k := by
  obtain ⟨h1, ⟨q1, q2, q3, q4, q5⟩, a1, a2, aS, aB, aI, aE, aK⟩ := id h
  have i0 := aI.1
  obtain ⟨-, n1, -, n2, -, n3, n4, n5⟩ := i0
  have hpr : 4 * q + s < 16 := by omega
  have h25 := a1 5 k (by decide) (Nat.le_refl k) hk
  rw [show 20 + 5 = 25 from rfl] at h25
  refine RH_upd h hk ?_ ?_ ?_ ?_ ?_ ?_ ?_ ?_ ?_
  · unfold NF
    simp (disch := omega) only [upd2_o, r26_6 h1, r26_8 h1, r27 h1, r29 h1, r30 h1, r32 h1]
    refine R1_f ?_ (by unfold St; omega)
    iterate 7 refine R1_u ?_ rfl
    exact R1_f (R1_g h1 (by unfold St; omega)) (by unfold St; omega)
  · intro o ho; unfold NF; simp (disch := omega) only [upd2_o]
  · intro o ho; unfold NF; simp (disch := omega) only [upd2_o]
  · intro r hr; unfold NF; simp (disch := omega) only [upd2_o, upd2_i]
  · intro r hr; unfold NF; simp (disch := omega) only [upd2_o, upd2_i]
  · unfold NF; simp (disch := omega) only [upd2_o, upd2_s, h25]
  · refine RS_upd aS (show q < 4 by omega) hq hs (show s < 4 by omega) ?_ ?_ ?_ ?_
    · rw [upd2_s]
    · intro i hi; unfold NF; simp (disch := omega) only [upd2_o, upd2_i]
    · unfold NF; simp (disch := omega) only [upd2_o, upd2_s]; exact n4
    · intro i hi; unfold NF; simp (disch := omega) only [upd2_o, upd2_i]
  · intro i hi
    by_cases hip : i = 4 * q + s
    · subst hip
      refine Or.inr ⟨t, Nat.le_refl t, ?_⟩
      unfold NF; simp (disch := omega) only [upd2_o, upd2_s]; exact n4
    · unfold NF; simp (disch := omega) only [upd2_o, upd2_i]; exact aE i hi
  · obtain ⟨k1, k2, k3, k4, k5⟩ := aK
    unfold NF IK
    simp (disch := omega) only [upd2_o, upd2_s, upd2_i]
    refine ⟨by rw [k1, nI_1], k2, ?_, by omega, ?_⟩
    · rw [k3]
      split
      · rw [show (0 : Int32) = nI 0 from rfl, nI_add]
      · rw [nI_1]
    · split <;> omega
theorem RH_E (h : RH F G ns nh nw t tp A np d e l c p k) (hk : k < np) {q s : Nat} (hq : q < nh) (hs : s < ns) : RH (EF (upd2 F 25 ((p + k) % 60) (F 25 ((p + k) % 60) ||| (1 <<< (nI q &&& 31)))) (4 * q + s)) (EF (upd2 G 25 k (G 25 k ||| (1 <<< (nI q &&& 31)))) (4 * q + s)) ns nh nw t tp A np d (e + 1) l (c + 1) p k := by
  obtain ⟨h1, ⟨q1, q2, q3, q4, q5⟩, a1, a2, aS, aB, aI, aE, aK⟩ := id h
  have i0 := aI.1
  obtain ⟨-, n1, -, n2, -, n3, n4, n5⟩ := i0
  have hpr : 4 * q + s < 16 := by omega
  have h25 := a1 5 k (by decide) (Nat.le_refl k) hk
  rw [show 20 + 5 = 25 from rfl] at h25
  refine RH_upd h hk ?_ ?_ ?_ ?_ ?_ ?_ ?_ ?_ ?_
  · unfold EF
    simp (disch := omega) only [upd2_o, r26_7 h1, r28 h1]
    iterate 2 refine R1_u ?_ rfl
    exact R1_f (R1_g h1 (by unfold St; omega)) (by unfold St; omega)
  · intro o ho; unfold EF; simp (disch := omega) only [upd2_o]
  · intro o ho; unfold EF; simp (disch := omega) only [upd2_o]
  · intro r hr; unfold EF; simp (disch := omega) only [upd2_o, upd2_i]
  · intro r hr; unfold EF; simp (disch := omega) only [upd2_o, upd2_i]
  · unfold EF; simp (disch := omega) only [upd2_o, upd2_s, h25]
  · unfold RS msk at aS ⊢; unfold EF; simp (disch := omega) only [upd2_o]; exact aS
  · unfold EF IE at *; simp (disch := omega) only [upd2_o]; exact aE
  · obtain ⟨k1, k2, k3, k4, k5⟩ := aK
    unfold EF IK
    simp (disch := omega) only [upd2_o, upd2_s, upd2_i]
    exact ⟨k1, by rw [k2, nI_1], k3, by omega, k5⟩
theorem or_bit : ∀ q, q < 4 → ∀ m, m < 16 → nI m ||| ((1 : Int32) <<< (nI q &&& 31)) = nI (m ||| 2 ^ q) := by decide +kernel
theorem JP_bit (h : JP G ns nh np t) (hn : nh ≤ 4) {q k : Nat} (hq : q < nh) (h25 : G' 25 k = G 25 k ||| (1 <<< (nI q &&& 31))) (h25' : ∀ i, i ≠ k → G' 25 i = G 25 i) (hG : ∀ o, o = 6 ∨ (20 ≤ o ∧ o < 25) → G' o = G o) : JP G' ns nh np t := by
  obtain ⟨h1, h2⟩ := h
  refine ⟨fun i hi => ?_, fun i i' hi hi' => by rw [hG 23 (by omega)]; exact h2 i i' hi hi'⟩
  obtain ⟨u, s, m, q1, q2, q3, q4, q5, q6, q7, q8⟩ := h1 i hi
  rw [hG 23 (by omega), hG 20 (by omega), hG 6 (by omega)]
  by_cases hik : i = k
  · subst hik
    have hm16 : m < 16 := Nat.lt_of_lt_of_le q8 (Nat.le_trans (Nat.pow_le_pow_right (by decide) hn) (by decide))
    refine ⟨u, s, m ||| 2 ^ q, q1, q2, q3, q4, q5, q6, by rw [h25, q7, or_bit q (by omega) m hm16], Nat.or_lt_two_pow q8 (Nat.pow_lt_pow_right (by decide) hq)⟩
  · exact ⟨u, s, m, q1, q2, q3, q4, q5, q6, by rw [h25' i hik]; exact q7, q8⟩
theorem JE_D (h : JJ G ns nh np t d e l B) (hk : k < np) (hn : nh ≤ 4) (hns : ns ≤ 4) (ht : t < 4000000) (hd : d < 2 ^ 30) {q s : Nat} (hq : q < nh) (hs : s < ns) (hg5 : G 0 5 = nI t) : JJ (NF (upd2 G 25 k (G 25 k ||| (1 <<< (nI q &&& 31)))) (4 * q + s) (G 23 k) (G 0 5)) ns nh np t (d + 1) e (l + (if G 32 (4 * q + s) ≤ G 23 k then 0 else 1)) B ∧ Fr G (NF (upd2 G 25 k (G 25 k ||| (1 <<< (nI q &&& 31)))) (4 * q + s) (G 23 k) (G 0 5)) := by
  obtain ⟨hP, ⟨N, E, L, hE, sN, sE, sL, hz⟩, hg⟩ := h
  have hpr : 4 * q + s < 16 := by omega
  obtain ⟨u, -, -, hu, -, hut, -⟩ := hP.1 k hk
  have hN := sumN_le (N := N) 16 hpr
  obtain ⟨a1, a2, a3, a4, a5, a6, a7, a8⟩ := hE _ hpr
  have hm1 : ∀ n : Nat, (-1 : Int32) ≤ nI n → True := fun _ _ => trivial
  refine ⟨⟨JP_bit hP hn hq (k := k) ?_ ?_ ?_, ⟨updN N (4 * q + s) (N (4 * q + s) + 1), E, updN L (4 * q + s) (L (4 * q + s) + (if G 32 (4 * q + s) ≤ G 23 k then 0 else 1)), ?_, ?_, sE, ?_, ?_⟩, ?_⟩, ?_⟩
  · unfold NF; simp (disch := omega) only [upd2_o, upd2_s]
  · intro i hi; unfold NF; simp (disch := omega) only [upd2_o, upd2_i]
  · intro o ho; unfold NF; simp (disch := omega) only [upd2_o]
  · intro i hi
    by_cases hip : i = 4 * q + s
    · rw [hip]
      have e1 : updN N (4 * q + s) (N (4 * q + s) + 1) (4 * q + s) = N (4 * q + s) + 1 := by unfold updN; rw [if_pos rfl]
      have e2 : updN L (4 * q + s) (L (4 * q + s) + (if G 32 (4 * q + s) ≤ G 23 k then 0 else 1)) (4 * q + s) = L (4 * q + s) + (if G 32 (4 * q + s) ≤ G 23 k then 0 else 1) := by unfold updN; rw [if_pos rfl]
      rw [e1, e2]
      have h32 : N (4 * q + s) = 0 → G 32 (4 * q + s) ≤ G 23 k := by
        intro h0
        rw [(a5 h0).2, hu, show (-1 : Int32) = Int32.ofInt (-1) from rfl]
        have h3 : (0 : Int32) ≤ nI u := nI_le (Nat.zero_le u) (by omega)
        have h4 : (Int32.ofInt (-1)) ≤ (0 : Int32) := by decide
        exact le_trans32 h4 h3
      unfold JE1 NF
      simp (disch := omega) only [upd2_o, upd2_s]
      refine ⟨by rw [a1, nI_1], a2, ?_, ?_, fun h => absurd h (Nat.succ_ne_zero _), fun _ => ⟨t, Nat.le_refl t, hg5⟩, ?_, ?_⟩
      · rw [a3]
        split
        · rw [show (0 : Int32) = nI 0 from rfl, nI_add]
        · rw [nI_1]
      · by_cases h0 : N (4 * q + s) = 0
        · rw [if_pos (h32 h0)]; clear a6 a8 hE; omega
        · clear a6 a8 hE; split <;> omega
      · intro h2; rw [if_pos (a5 (by omega)).1]
      · intro h2
        obtain ⟨v, hv, hv'⟩ := a6 (by omega)
        refine ⟨t - v, by omega, ?_⟩
        rw [if_neg (by rw [hv']; exact nI_ne_m1 (by omega)), hv', hg5, pk_sub (by omega)]
    · have e1 : updN N (4 * q + s) (N (4 * q + s) + 1) i = N i := by unfold updN; rw [if_neg hip]
      have e2 : updN L (4 * q + s) (L (4 * q + s) + (if G 32 (4 * q + s) ≤ G 23 k then 0 else 1)) i = L i := by unfold updN; rw [if_neg hip]
      rw [e1, e2]
      unfold JE1 NF
      simp (disch := omega) only [upd2_o, upd2_i]
      exact hE i hi
  · rw [sumN_upd, if_pos hpr, sN]
  · rw [sumN_upd, if_pos hpr, sL]
  · intro h' s' hh hss hor
    have hne : ¬ 4 * h' + s' = 4 * q + s := by omega
    obtain ⟨z1, z2, z3⟩ := hz h' s' hh hss hor
    refine ⟨by unfold updN; rw [if_neg hne]; exact z1, z2, by unfold updN; rw [if_neg hne]; exact z3⟩
  · unfold JG at hg ⊢; unfold NF; simp (disch := omega) only [upd2_o]; exact hg
  · refine ⟨fun o h1 h2 => by unfold NF; simp (disch := omega) only [upd2_o], fun j hj => by unfold NF; simp (disch := omega) only [upd2_o], fun i hi => ?_⟩
    unfold NF
    simp (disch := omega) only [upd2_o]
    by_cases hip : i = 4 * q + s
    · rw [hip, upd2_s, a1, nI_1]; exact nI_le (by omega) (by omega)
    · rw [upd2_i hip]; exact le_refl32
theorem JE_E (h : JJ G ns nh np t d e l B) (hn : nh ≤ 4) (hns : ns ≤ 4) {q s : Nat} (hq : q < nh) (hs : s < ns) : JJ (EF (upd2 G 25 k (G 25 k ||| (1 <<< (nI q &&& 31)))) (4 * q + s)) ns nh np t d (e + 1) l B ∧ Fr G (EF (upd2 G 25 k (G 25 k ||| (1 <<< (nI q &&& 31)))) (4 * q + s)) := by
  obtain ⟨hP, ⟨N, E, L, hE, sN, sE, sL, hz⟩, hg⟩ := h
  have hpr : 4 * q + s < 16 := by omega
  refine ⟨⟨JP_bit hP hn hq (k := k) ?_ ?_ ?_, ⟨N, updN E (4 * q + s) (E (4 * q + s) + 1), L, ?_, sN, ?_, sL, ?_⟩, ?_⟩, ?_⟩
  · unfold EF; simp (disch := omega) only [upd2_o, upd2_s]
  · intro i hi; unfold EF; simp (disch := omega) only [upd2_o, upd2_i]
  · intro o ho; unfold EF; simp (disch := omega) only [upd2_o]
  · intro i hi
    by_cases hip : i = 4 * q + s
    · rw [hip]
      have e1 : updN E (4 * q + s) (E (4 * q + s) + 1) (4 * q + s) = E (4 * q + s) + 1 := by unfold updN; rw [if_pos rfl]
      rw [e1]
      obtain ⟨a1, a2, a3⟩ := hE _ hpr
      unfold JE1 EF
      simp (disch := omega) only [upd2_o, upd2_s]
      exact ⟨a1, by rw [a2, nI_1], a3⟩
    · have e1 : updN E (4 * q + s) (E (4 * q + s) + 1) i = E i := by unfold updN; rw [if_neg hip]
      rw [e1]
      unfold JE1 EF
      simp (disch := omega) only [upd2_o, upd2_i]
      exact hE i hi
  · rw [sumN_upd, if_pos hpr, sE]
  · intro h' s' hh hss hor
    have hne : ¬ 4 * h' + s' = 4 * q + s := by omega
    obtain ⟨z1, z2, z3⟩ := hz h' s' hh hss hor
    refine ⟨z1, by unfold updN; rw [if_neg hne]; exact z2, z3⟩
  · unfold JG at hg ⊢; unfold EF; simp (disch := omega) only [upd2_o]; exact hg
  · exact Fr_of (fun o h1 h2 => by unfold EF; simp (disch := omega) only [upd2_o]) (fun j hj => by unfold EF; simp (disch := omega) only [upd2_o]) (by unfold EF; simp (disch := omega) only [upd2_o])
end P44
